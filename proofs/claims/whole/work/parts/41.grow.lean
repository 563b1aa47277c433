/-! grow -/
section GRO
def CKr (D : aD) (T : aT) : Prop := (∀ p : Nat, (p : Int) < T 0 4 → gI D 61 p = cI (T 8 p) ∧ gI D 62 p = cI (T 10 p) ∧ gI D 63 p = cI (T 13 p)) ∧ tbN D T (fun w p => wOn T w ∧ w < 5 ∧ (p : Int) < T 0 4)
theorem pl_fr {T : aT} {s c g m : Int} {w i p : Nat} (hp : p ≠ (T 0 4).toNat) : frN (plT T s c g) m w i p = frN T m w i p := by
  unfold frN gtN hrN
  have sc := pl_scn (T := T) (s := s) (c := c) (g := g)
  rw [sc_cg sc, sc.2.2.1, sc.2.2.2.2.1, sc.2.2.2.2.2, pl_o (by omega) (Or.inl hp), pl_o (by omega) (Or.inl hp)]
theorem try_ok {D : aD} {T : aT} {s c g : Int} (hp : TOKp T) (hn : TOKn T) (hC : CP D 2 T) (hN : CNow D T) (hK : CKr D T) (hP : T 0 4 < 12) (h1 : 0 ≤ s) (h2 : s < T 0 2) (h3 : 0 ≤ c) (h4 : c < T 0 0 * T 0 1) :
    Ok (f_X1_tryPlant (cI s) (cI c) (cI g) D) (fun D' => CK D' (plT T s c g) (wOn T) ∧ CKr D' T ∧ ∀ k j : Nat, ¬ (60 ≤ k ∧ k ≤ 65) → gI D' k j = gI D k j) := by
  have hq := hp.1
  obtain ⟨-, -, q3, -⟩ := CP.two hC
  have q4 := q3 4 (by omega) (by omega)
  have eP : (((T 0 4).toNat : Nat) : Int) = T 0 4 := by omega
  unfold f_X1_tryPlant
  simp (disch := omega) only [e_bi, e_bind, e_let, e_tr, e_tl, cLm1, cLm2, cL0, cL1, cL2, cL3, cL4, cL5, cL6, cL7, cL8, cL9, cL10, cL11, cL12, cL13, cL14, cL15, cL16, cL17, cL18, cL19, cL20, cL21, cL22, cL23, cL24, cL25, cL29, cL30, cL31, cL32, cL36, cL48, cL50, cL51, cL52, cL64, cL99, cL100, cL700, cL1000, cL9999, cL10000, cI_add, cI_sub, cI_mul, cI_neg, cI_lt, cI_le, cI_eq, ne_eq, ifp, ifn, bI_p, bI_n, aZ_0, aZ_1, aZ_b, e_gdt, e_ifT, e_ifF, not_true_eq_false, not_false_eq_true, e_gd, q4, cI_inT, cI_nat]
  generalize hDD : (pI (pI (pI (pI D 60 3 (cI (T 0 4 + 1))) 61 (T 0 4).toNat (cI s)) 62 (T 0 4).toNat (cI g)) 63 (T 0 4).toNat (cI 0)) = DD
  have fr : ∀ k j : Nat, ¬ (60 ≤ k ∧ k ≤ 63) → gI DD k j = gI D k j := fun k j a => by
    rw [← hDD]
    simp (disch := omega) only [gI_fr]
  obtain ⟨hC1, hN1⟩ := cF hp hC hN (D' := DD) (fun k j hk => fr k j (by omega))
  have s60 : gI DD 60 3 = cI (T 0 4 + 1) := by rw [← hDD]; simp (disch := omega) only [gI_fr, gI_eq]
  have s61 : gI DD 61 (T 0 4).toNat = cI s := by rw [← hDD]; simp (disch := omega) only [gI_fr, gI_eq]
  have s62 : gI DD 62 (T 0 4).toNat = cI g := by rw [← hDD]; simp (disch := omega) only [gI_fr, gI_eq]
  have s63 : gI DD 63 (T 0 4).toNat = cI 0 := by rw [← hDD]; simp (disch := omega) only [gI_eq]
  have so : ∀ k p : Nat, 61 ≤ k → k ≤ 63 → p ≠ (T 0 4).toNat → gI DD k p = gI D k p := fun k p a b d => by
    rw [← hDD]
    simp (disch := omega) only [gI_fr]
  have tb : tbN DD (plT T s c g) (fun w p => wOn T w ∧ w < 5 ∧ (p : Int) < T 0 4) := by
    intro w i p z hi
    rw [pl_fr (by omega), pl_fr (by omega), fr _ _ (by omega), fr _ _ (by omega)]
    rw [pl_scn.1 5 (by omega)] at hi
    exact hK.2 w i p z hi
  have k := carryAll_ok (T' := plT T s c g) (p := (T 0 4).toNat) hp hn hC1 hN1 pl_scn (by omega) (by rw [pl_8]; exact s61) (by rw [pl_8]; exact h1) (by rw [pl_8]; exact h2) (by rw [pl_9]; exact h3) (by rw [pl_9]; exact h4) tb (fun w p z => by omega)
  rw [pl_9, eP] at k
  refine ok_bindI (k.mono fun D2 q => ok_someI ?_)
  obtain ⟨k1, k2⟩ := q
  refine ⟨⟨by rw [k2 _ _ (by omega) (by omega), pl_04]; exact s60, fun p hp => ?_, fun w i p z hi => k1 w i p ?_ hi⟩, ⟨fun p hp => ?_, fun w i p z hi => ?_⟩, fun k j a => (k2 k j (by omega) (by omega)).trans (fr k j (by omega))⟩
  · rw [pl_04] at hp
    rw [k2 _ _ (by omega) (by omega), k2 _ _ (by omega) (by omega), k2 _ _ (by omega) (by omega)]
    by_cases e : p = (T 0 4).toNat
    · subst e
      rw [pl_8, pl_10, pl_13]
      exact ⟨s61, s62, s63⟩
    · rw [pl_o (by omega) (Or.inl e), pl_o (by omega) (Or.inl e), pl_o (by omega) (Or.inl e), so _ _ (by omega) (by omega) e, so _ _ (by omega) (by omega) e, so _ _ (by omega) (by omega) e]
      exact hK.1 p (by omega)
  · rw [pl_04] at z
    by_cases e : p = (T 0 4).toNat
    · exact Or.inr ⟨z.1, z.2.1, e⟩
    · exact Or.inl ⟨z.1, z.2.1, by omega⟩
  · rw [k2 _ _ (by omega) (by omega), k2 _ _ (by omega) (by omega), k2 _ _ (by omega) (by omega), so _ _ (by omega) (by omega) (by omega), so _ _ (by omega) (by omega) (by omega), so _ _ (by omega) (by omega) (by omega)]
    exact hK.1 p hp
  · have h9 := k1 w i p (Or.inl z) (by rw [pl_scn.1 5 (by omega)]; exact hi)
    rw [pl_fr (by omega), pl_fr (by omega)] at h9
    exact h9
theorem growAs_ok {D : aD} {T : aT} {s c g : Int} (hT : TOKs T) (hM : MS D T) (hP : T 0 4 ≤ 12) :
    Ok (f_X12_growAs (cI s) (cI c) (cI g) D) (fun D' => MS D' (plT T s c g) ∧ (∀ k j : Nat, ¬ (k = 88 ∧ j = 30) → ¬ (j = (T 0 4).toNat ∧ (k = 99 ∨ k = 100 ∨ k = 101 ∨ k = 106)) → gI D' k j = gI D k j) ∧ D'.2 = D.2) := by
  have hq := hT.1
  have m30 := hM.2.2.2.2.2.1
  have sc := pl_scn (T := T) (s := s) (c := c) (g := g)
  unfold f_X12_growAs
  simp (disch := omega) only [e_bi, e_bind, e_let, e_tr, e_tl, cLm1, cLm2, cL0, cL1, cL2, cL3, cL4, cL5, cL6, cL7, cL8, cL9, cL10, cL11, cL12, cL13, cL14, cL15, cL16, cL17, cL18, cL19, cL20, cL21, cL22, cL23, cL24, cL25, cL29, cL30, cL31, cL32, cL36, cL48, cL50, cL51, cL52, cL64, cL99, cL100, cL700, cL1000, cL9999, cL10000, cI_add, cI_sub, cI_mul, cI_neg, cI_lt, cI_le, cI_eq, ne_eq, ifp, ifn, bI_p, bI_n, aZ_0, aZ_1, aZ_b, e_gdt, e_ifT, e_ifF, not_true_eq_false, not_false_eq_true, e_gd, m30, cI_inT, cI_nat, gI_fr]
  refine ok_someI ?_
  generalize hDD : (pI (pI (pI (pI (pI D 99 (T 0 4).toNat (cI s)) 100 (T 0 4).toNat (cI c)) 101 (T 0 4).toNat (cI g)) 106 (T 0 4).toNat (cI 0)) 88 30 (cI (T 0 4 + 1))) = DD
  have fr : ∀ k j : Nat, ¬ (k = 88 ∧ j = 30) → ¬ (j = (T 0 4).toNat ∧ (k = 99 ∨ k = 100 ∨ k = 101 ∨ k = 106)) → gI DD k j = gI D k j := fun k j a b => by
    rw [← hDD]
    simp (disch := omega) only [gI_fr]
  have v1 : gI DD 99 (T 0 4).toNat = cI s := by rw [← hDD]; simp (disch := omega) only [gI_fr, gI_eq]
  have v2 : gI DD 100 (T 0 4).toNat = cI c := by rw [← hDD]; simp (disch := omega) only [gI_fr, gI_eq]
  have v3 : gI DD 101 (T 0 4).toNat = cI g := by rw [← hDD]; simp (disch := omega) only [gI_fr, gI_eq]
  have v4 : gI DD 106 (T 0 4).toNat = cI 0 := by rw [← hDD]; simp (disch := omega) only [gI_fr, gI_eq]
  have v5 : gI DD 88 30 = cI (T 0 4 + 1) := by rw [← hDD]; simp (disch := omega) only [gI_eq]
  obtain ⟨a1, a2, a3, a4, a5, a6, a7, a8, a9, a10⟩ := hM
  refine ⟨⟨fun j x y => ?_, fun f s' x y => ?_, fun r p x y => ?_, fun i x => ?_, fun m x => ?_, by rw [pl_04]; exact v5, fun p x => ?_, fun i x => ?_, ?_, ?_⟩, fr, by rw [← hDD]; rfl⟩
  · rw [sc.1 j y, fr _ _ (by omega) (by omega)]; exact a1 j x y
  · rw [sc.1 2 (by omega)] at y
    rw [sc.2.1 (1 + f) (by omega) (by omega), fr _ _ (by omega) (by omega)]; exact a2 f s' x y
  · rw [pl_04] at y
    by_cases e : p = (T 0 4).toNat
    · subst e
      have hr : r = 0 ∨ r = 1 ∨ r = 2 := by omega
      rcases hr with rfl | rfl | rfl
      · show gI DD 99 _ = cI (plT T s c g 8 _); rw [pl_8]; exact v1
      · show gI DD 100 _ = cI (plT T s c g 9 _); rw [pl_9]; exact v2
      · show gI DD 101 _ = cI (plT T s c g 10 _); rw [pl_10]; exact v3
    · rw [pl_o (by omega) (Or.inl e), fr _ _ (by omega) (by omega)]; exact a3 r p x (by omega)
  · rw [sc.1 5 (by omega)] at x
    rw [sc.2.2.1, fr _ _ (by omega) (by omega)]; exact a4 i x
  · rw [sc.2.2.2.1, fr _ _ (by omega) (by omega)]; exact a5 m x
  · rw [pl_04] at x
    by_cases e : p = (T 0 4).toNat
    · subst e; rw [pl_13]; exact v4
    · rw [pl_o (by omega) (Or.inl e), fr _ _ (by omega) (by omega)]; exact a7 p (by omega)
  · rw [sc.2.2.2.2.1, fr _ _ (by omega) (by omega)]; exact a8 i x
  · rw [sc.2.2.2.2.2, fr _ _ (by omega) (by omega)]; exact a9
  · rw [sc.2.2.2.2.2, fr _ _ (by omega) (by omega)]; exact a10
def grC (T : aT) (g : Nat) (s : Nat) (z : Int × Int) : Nat → Int × Int
  | 0 => z
  | c + 1 => if takenN T c = true then grC T g s z c else if (grC T g s z c).1 < wtN (plT T s c g) g 5 then (wtN (plT T s c g) g 5, 64 * s + c) else grC T g s z c
def clN (T : aT) : Nat := (T 0 0 * T 0 1).toNat
def grS (T : aT) (g : Nat) : Nat → Int × Int
  | 0 => (-1, -1)
  | s + 1 => grC T g s (grS T g s) (clN T)
theorem wt_pl {T : aT} {s c : Int} {g n : Nat} (h : ∀ w : Nat, w < 5 → 0 ≤ T 0 (10 + w) ∧ T 0 (10 + w) ≤ 99) : 0 ≤ wtN (plT T s c g) g 5 ∧ wtN (plT T s c g) g 5 ≤ allN T := by
  have h' : ∀ w : Nat, w < 5 → 0 ≤ plT T s c g 0 (10 + w) ∧ plT T s c g 0 (10 + w) ≤ 99 := fun w hw => by rw [pl_scn.1 _ (by omega)]; exact h w hw
  have a := wt_b (g := g) (n := 5) h' (by omega)
  have b := wt_left (g := g) (i := 0) h' (by omega)
  have e : wtN (plT T s c g) g 0 = 0 := rfl
  have e2 : sgN 0 (fun w => plT T s c g 0 (10 + w)) = 0 := rfl
  have e3 : allN (plT T s c g) = allN T := sg_cg 5 (fun w _ => pl_scn.1 _ (by omega))
  omega
theorem grC_b {T : aT} {g s : Nat} {z : Int × Int} (h : ∀ w : Nat, w < 5 → 0 ≤ T 0 (10 + w) ∧ T 0 (10 + w) ≤ 99) (hz : -1 ≤ z.1 ∧ z.1 ≤ allN T) : ∀ c : Nat, -1 ≤ (grC T g s z c).1 ∧ (grC T g s z c).1 ≤ allN T
  | 0 => hz
  | c + 1 => by
    have a := grC_b (g := g) (s := s) h hz c
    have b := wt_pl (s := (s : Int)) (c := (c : Int)) (g := g) (n := 0) h
    rw [grC]
    split
    · exact a
    · split
      · show -1 ≤ wtN _ _ _ ∧ wtN _ _ _ ≤ _
        omega
      · exact a
theorem grS_b {T : aT} {g : Nat} (h : ∀ w : Nat, w < 5 → 0 ≤ T 0 (10 + w) ∧ T 0 (10 + w) ≤ 99) : ∀ s : Nat, -1 ≤ (grS T g s).1 ∧ (grS T g s).1 ≤ allN T
  | 0 => by
    have := all_b h
    rw [grS]
    show (-1 : Int) ≤ -1 ∧ (-1 : Int) ≤ _
    omega
  | s + 1 => grC_b h (grS_b h s) (clN T)
/-- nothing beats all weights -/
theorem grC_stop {T : aT} {g s : Nat} {z : Int × Int} {c : Nat} (h : ∀ w : Nat, w < 5 → 0 ≤ T 0 (10 + w) ∧ T 0 (10 + w) ≤ 99) (hz : allN T ≤ (grC T g s z c).1) : ∀ n : Nat, grC T g s z (c + n) = grC T g s z c
  | 0 => rfl
  | n + 1 => by
    have a := grC_stop (g := g) (s := s) h hz n
    have b := wt_pl (s := (s : Int)) (c := ((c + n : Nat) : Int)) (g := g) (n := 0) h
    rw [show c + (n + 1) = (c + n) + 1 from rfl, grC, a]
    split
    · rfl
    · rw [if_neg (by omega)]
def grF (D : aD) (z : Int × Int) : Prop := z.1 ≠ -1 → ∃ a b : Int, gI D 68 8 = cI a ∧ gI D 68 9 = cI b ∧ a * 64 + b = z.2
theorem pom_ok {D : aD} {T : aT} {g : Nat} (hp : TOKp T) (hn : TOKn T) (hC : CP D 2 T) (hN : CNow D T) (hK : CK D T (wOn T)) (hg : (g : Int) < T 0 3) (hP : T 0 4 < 12) :
    Ok (f_X3_plantOneMore (cI (g : Int)) D) (fun r => r.1 = cI (grS T g (T 0 2).toNat).1 ∧ grF r.2 (grS T g (T 0 2).toNat) ∧ ∀ k j : Nat, ¬ (57 ≤ k ∧ k < 88) → gI r.2 k j = gI D k j) := by
  have hq := hp.1
  have ab := all_b hp.2.1
  obtain ⟨-, -, q3, -⟩ := CP.two hC
  have q4 := q3 4 (by omega) (by omega)
  have hT := TOKs.of hp hn
  unfold f_X3_plantOneMore
  rw [callW_eq hp hC, e_bi]
  simp (disch := omega) only [e_bi, e_bind, e_let, e_tr, e_tl, cLm1, cLm2, cL0, cL1, cL2, cL3, cL4, cL5, cL6, cL7, cL8, cL9, cL10, cL11, cL12, cL13, cL14, cL15, cL16, cL17, cL18, cL19, cL20, cL21, cL22, cL23, cL24, cL25, cL29, cL30, cL31, cL32, cL36, cL48, cL50, cL51, cL52, cL64, cL99, cL100, cL700, cL1000, cL9999, cL10000, cI_add, cI_sub, cI_mul, cI_neg, cI_lt, cI_le, cI_eq, ne_eq, ifp, ifn, bI_p, bI_n, aZ_0, aZ_1, aZ_b, e_gdt, e_ifT, e_ifF, not_true_eq_false, not_false_eq_true, e_gd, q4]
  unfold J_X3_plantOneMore_27
  refine ok_bindI (ok_lp (fun i t => t.1 = cI (grS T g i).1 ∧ t.2.1 = cI (i : Int) ∧ grF t.2.2 (grS T g i) ∧ CKr t.2.2 T ∧ ∀ k j : Nat, ¬ (57 ≤ k ∧ k < 88) → gI t.2.2 k j = gI D k j) (T 0 2).toNat (by omega) ⟨rfl, rfl, fun h => absurd rfl h, ⟨hK.2.1, hK.2.2⟩, fun _ _ _ => rfl⟩ ?_)
  rintro i ⟨x, y, D1⟩ hi ⟨rfl, rfl, g1, g2, g3⟩
  show Ok (B_X3_plantOneMore_27 (cI (g : Int)) (cI (allN T)) (cI (grS T g i).1) (cI (i : Int)) D1) _
  obtain ⟨hC1, hN1⟩ := cF hp hC hN (D' := D1) (fun k j hk => g3 k j (by omega))
  obtain ⟨-, -, p3, -⟩ := CP.two hC1
  have gb := grS_b (g := g) hp.2.1 i
  unfold B_X3_plantOneMore_27
  by_cases c : (i : Int) < T 0 2
  · simp (disch := omega) only [e_bi, e_bind, e_let, e_tr, e_tl, cLm1, cLm2, cL0, cL1, cL2, cL3, cL4, cL5, cL6, cL7, cL8, cL9, cL10, cL11, cL12, cL13, cL14, cL15, cL16, cL17, cL18, cL19, cL20, cL21, cL22, cL23, cL24, cL25, cL29, cL30, cL31, cL32, cL36, cL48, cL50, cL51, cL52, cL64, cL99, cL100, cL700, cL1000, cL9999, cL10000, cI_add, cI_sub, cI_mul, cI_neg, cI_lt, cI_le, cI_eq, ne_eq, ifp, ifn, bI_p, bI_n, aZ_0, aZ_1, aZ_b, e_gdt, e_ifT, e_ifF, not_true_eq_false, not_false_eq_true, e_gd, p3]
    unfold J_X3_plantOneMore_42
    refine ok_bindI (ok_lp (fun n t => t.1 = cI (grC T g i (grS T g i) n).1 ∧ t.2.1 = cI (n : Int) ∧ grF t.2.2 (grC T g i (grS T g i) n) ∧ CKr t.2.2 T ∧ ∀ k j : Nat, ¬ (57 ≤ k ∧ k < 88) → gI t.2.2 k j = gI D k j) (clN T) (by unfold clN; omega) ⟨rfl, rfl, g1, g2, g3⟩ ?_)
    rintro n ⟨x, y, D2⟩ hn' ⟨rfl, rfl, f1, f2, f3⟩
    show Ok (B_X3_plantOneMore_42 (cI (g : Int)) (cI (allN T)) (cI (i : Int)) (cI (grC T g i (grS T g i) n).1) (cI (n : Int)) D2) _
    obtain ⟨hC2, hN2⟩ := cF hp hC hN (D' := D2) (fun k j hk => f3 k j (by omega))
    have ck : gI D2 3 0 = cI (T 0 0) ∧ gI D2 3 1 = cI (T 0 1) := ⟨(CP.two hC2).1, (CP.two hC2).2.1⟩
    have cb := grC_b (g := g) (s := i) hp.2.1 gb n
    have fin : ∀ D3 : aD, n ≤ clN T → (n = clN T ∨ allN T ≤ (grC T g i (grS T g i) n).1) → grF D3 (grC T g i (grS T g i) n) → CKr D3 T → (∀ k j : Nat, ¬ (57 ≤ k ∧ k < 88) → gI D3 k j = gI D k j) → Ok (J_X3_plantOneMore_131 (cI (g : Int)) (cI (allN T)) (cI (grC T g i (grS T g i) n).1) (cI (i : Int)) D3) (fun r => (∃ s', r = .inl s' ∧ i < (T 0 2).toNat ∧ (fun (i : Nat) (t : Int32 × Int32 × aD) => t.1 = cI (grS T g i).1 ∧ t.2.1 = cI (i : Int) ∧ grF t.2.2 (grS T g i) ∧ CKr t.2.2 T ∧ ∀ k j : Nat, ¬ (57 ≤ k ∧ k < 88) → gI t.2.2 k j = gI D k j) (i + 1) s') ∨ ∃ q, r = .inr q ∧ Ok (J_X3_plantOneMore_137 q.1 q.2) (fun r => r.1 = cI (grS T g (T 0 2).toNat).1 ∧ grF r.2 (grS T g (T 0 2).toNat) ∧ ∀ k j : Nat, ¬ (57 ≤ k ∧ k < 88) → gI r.2 k j = gI D k j)) := by
      intro D3 a0 a1 a2 a3 a4
      have e : grS T g (i + 1) = grC T g i (grS T g i) n := by
        rw [grS]
        rcases a1 with a1 | a1
        · rw [a1]
        · have h := grC_stop (g := g) (s := i) hp.2.1 a1 (clN T - n)
          rw [show n + (clN T - n) = clN T by omega] at h
          exact h
      unfold J_X3_plantOneMore_131
      simp only [cL1, e_let, cI_add]
      refine ok_someI (Or.inl ⟨_, rfl, by omega, ?_, rfl, ?_, a3, a4⟩)
      · show cI _ = cI (grS T g (i + 1)).1
        rw [e]
      · show grF D3 (grS T g (i + 1))
        rw [e]; exact a2
    unfold B_X3_plantOneMore_42 f_X4_cells
    by_cases d : n < clN T
    · have dd : (n : Int) < T 0 0 * T 0 1 := by unfold clN at d; omega
      by_cases d1 : allN T ≤ (grC T g i (grS T g i) n).1
      · simp (disch := omega) only [e_bi, e_bind, e_let, e_tr, e_tl, cLm1, cLm2, cL0, cL1, cL2, cL3, cL4, cL5, cL6, cL7, cL8, cL9, cL10, cL11, cL12, cL13, cL14, cL15, cL16, cL17, cL18, cL19, cL20, cL21, cL22, cL23, cL24, cL25, cL29, cL30, cL31, cL32, cL36, cL48, cL50, cL51, cL52, cL64, cL99, cL100, cL700, cL1000, cL9999, cL10000, cI_add, cI_sub, cI_mul, cI_neg, cI_lt, cI_le, cI_eq, ne_eq, ifp, ifn, bI_p, bI_n, aZ_0, aZ_1, aZ_b, e_gdt, e_ifT, e_ifF, not_true_eq_false, not_false_eq_true, e_gd, ck.1, ck.2]
        exact ok_someI (Or.inr ⟨_, rfl, fin D2 (by omega) (Or.inr d1) f1 f2 f3⟩)
      · have tk : gI D2 6 n = cI (if takenN T n then 1 else 0) := hC2.2.2.2.2.2.2.2.2.2.2 n (by omega)
        have e : ((n : Int)).toNat = n := by omega
        have st : grC T g i (grS T g i) (n + 1) = if takenN T n = true then grC T g i (grS T g i) n else if (grC T g i (grS T g i) n).1 < wtN (plT T i n g) g 5 then (wtN (plT T i n g) g 5, 64 * (i : Int) + n) else grC T g i (grS T g i) n := rfl
        by_cases t : takenN T n = true
        · rw [if_pos t] at st
          rw [if_pos t] at tk
          simp (disch := omega) only [e_bi, e_bind, e_let, e_tr, e_tl, cLm1, cLm2, cL0, cL1, cL2, cL3, cL4, cL5, cL6, cL7, cL8, cL9, cL10, cL11, cL12, cL13, cL14, cL15, cL16, cL17, cL18, cL19, cL20, cL21, cL22, cL23, cL24, cL25, cL29, cL30, cL31, cL32, cL36, cL48, cL50, cL51, cL52, cL64, cL99, cL100, cL700, cL1000, cL9999, cL10000, cI_add, cI_sub, cI_mul, cI_neg, cI_lt, cI_le, cI_eq, ne_eq, ifp, ifn, bI_p, bI_n, aZ_0, aZ_1, aZ_b, e_gdt, e_ifT, e_ifF, not_true_eq_false, not_false_eq_true, e_gd, ck.1, ck.2, cI_inT, cI_nat, e, tk]
          refine ok_someI (Or.inl ⟨_, rfl, d, ?_, rfl, ?_, f2, f3⟩)
          · rw [st]
          · rw [st]; exact f1
        · rw [if_neg t] at st tk
          simp (disch := omega) only [e_bi, e_bind, e_let, e_tr, e_tl, cLm1, cLm2, cL0, cL1, cL2, cL3, cL4, cL5, cL6, cL7, cL8, cL9, cL10, cL11, cL12, cL13, cL14, cL15, cL16, cL17, cL18, cL19, cL20, cL21, cL22, cL23, cL24, cL25, cL29, cL30, cL31, cL32, cL36, cL48, cL50, cL51, cL52, cL64, cL99, cL100, cL700, cL1000, cL9999, cL10000, cI_add, cI_sub, cI_mul, cI_neg, cI_lt, cI_le, cI_eq, ne_eq, ifp, ifn, bI_p, bI_n, aZ_0, aZ_1, aZ_b, e_gdt, e_ifT, e_ifF, not_true_eq_false, not_false_eq_true, e_gd, ck.1, ck.2, cI_inT, cI_nat, e, tk]
          refine ok_bindI ((try_ok (s := (i : Int)) (c := (n : Int)) (g := (g : Int)) hp hn hC2 hN2 f2 hP (by omega) (by omega) (by omega) (by omega)).mono fun D3 q => ?_)
          obtain ⟨z1, z2, z3⟩ := q
          have hC3 : CP D3 2 T := hC2.fr hp (fun k j hk => z3 _ j (by omega))
          have hTp := pl_ok (s := (i : Int)) (c := (n : Int)) (g := (g : Int)) hT (by omega) (by omega) (by omega) (by omega) (by omega) (by omega) (by omega)
          have wb := wt_pl (s := (i : Int)) (c := (n : Int)) (g := g) (n := 0) hp.2.1
          refine ok_biI ((won_ok (T' := plT T i n g) (fl := (grC T g i (grS T g i) n).1) hp hC3 hTp pl_scn z1 (fun w h => h) hg (by omega) (by omega) (by rw [pl_04]; omega)).mono fun r q => ?_)
          obtain ⟨y, D4⟩ := r
          obtain ⟨⟨v, y1, y2, y3, y4⟩, y5⟩ := q
          obtain rfl : y = cI v := y1
          have y5' : ∀ k j : Nat, k ≠ 58 → k ≠ 59 → k ≠ 66 → gI D4 k j = gI D3 k j := y5
          have fr4 : ∀ k j : Nat, ¬ (57 ≤ k ∧ k < 88) → gI D4 k j = gI D k j := fun k j a => (y5' k j (by omega) (by omega) (by omega)).trans ((z3 k j (by omega)).trans (f3 k j a))
          have kr4 : CKr D4 T := ⟨fun p hp => ⟨(y5' _ _ (by omega) (by omega) (by omega)).trans (z2.1 p hp).1, (y5' _ _ (by omega) (by omega) (by omega)).trans (z2.1 p hp).2.1, (y5' _ _ (by omega) (by omega) (by omega)).trans (z2.1 p hp).2.2⟩, fun w i' p z hi' => ⟨(y5' _ _ (by omega) (by omega) (by omega)).trans (z2.2 w i' p z hi').1, (y5' _ _ (by omega) (by omega) (by omega)).trans (z2.2 w i' p z hi').2⟩⟩
          by_cases b : (grC T g i (grS T g i) n).1 < wtN (plT T i n g) g 5
          · obtain rfl := y2 b
            rw [if_pos b] at st
            simp (disch := omega) only [e_bi, e_bind, e_let, e_tr, e_tl, cLm1, cLm2, cL0, cL1, cL2, cL3, cL4, cL5, cL6, cL7, cL8, cL9, cL10, cL11, cL12, cL13, cL14, cL15, cL16, cL17, cL18, cL19, cL20, cL21, cL22, cL23, cL24, cL25, cL29, cL30, cL31, cL32, cL36, cL48, cL50, cL51, cL52, cL64, cL99, cL100, cL700, cL1000, cL9999, cL10000, cI_add, cI_sub, cI_mul, cI_neg, cI_lt, cI_le, cI_eq, ne_eq, ifp, ifn, bI_p, bI_n, aZ_0, aZ_1, aZ_b, e_gdt, e_ifT, e_ifF, not_true_eq_false, not_false_eq_true, e_gd]
            refine ok_someI (Or.inl ⟨_, rfl, d, ?_, rfl, ?_, ?_, fun k j a => ?_⟩)
            · rw [st]
            · rw [st]
              intro _
              exact ⟨i, n, (gI_fr (by omega)).trans gI_eq, gI_eq, by show (i : Int) * 64 + n = 64 * i + n; omega⟩
            · refine ⟨fun p hp => ?_, fun w i' p z hi' => ?_⟩
              · show gI (pI (pI D4 68 8 _) 68 9 _) 61 p = _ ∧ gI (pI (pI D4 68 8 _) 68 9 _) 62 p = _ ∧ gI (pI (pI D4 68 8 _) 68 9 _) 63 p = _
                simp (disch := omega) only [gI_fr]
                exact kr4.1 p hp
              · show gI (pI (pI D4 68 8 _) 68 9 _) 64 _ = _ ∧ gI (pI (pI D4 68 8 _) 68 9 _) 65 _ = _
                simp (disch := omega) only [gI_fr]
                exact kr4.2 w i' p z hi'
            · show gI (pI (pI D4 68 8 _) 68 9 _) k j = _
              rw [gI_fr (by omega), gI_fr (by omega)]
              exact fr4 k j a
          · have y3' := y3 (by omega)
            rw [if_neg b] at st
            simp (disch := omega) only [e_bi, e_bind, e_let, e_tr, e_tl, cLm1, cLm2, cL0, cL1, cL2, cL3, cL4, cL5, cL6, cL7, cL8, cL9, cL10, cL11, cL12, cL13, cL14, cL15, cL16, cL17, cL18, cL19, cL20, cL21, cL22, cL23, cL24, cL25, cL29, cL30, cL31, cL32, cL36, cL48, cL50, cL51, cL52, cL64, cL99, cL100, cL700, cL1000, cL9999, cL10000, cI_add, cI_sub, cI_mul, cI_neg, cI_lt, cI_le, cI_eq, ne_eq, ifp, ifn, bI_p, bI_n, aZ_0, aZ_1, aZ_b, e_gdt, e_ifT, e_ifF, not_true_eq_false, not_false_eq_true, e_gd]
            refine ok_someI (Or.inl ⟨_, rfl, d, ?_, rfl, ?_, kr4, fr4⟩)
            · rw [st]
            · rw [st]
              intro h9
              obtain ⟨a, b', e1, e2, e3⟩ := f1 h9
              exact ⟨a, b', (y5' _ _ (by omega) (by omega) (by omega)).trans ((z3 _ _ (by omega)).trans e1), (y5' _ _ (by omega) (by omega) (by omega)).trans ((z3 _ _ (by omega)).trans e2), e3⟩
    · obtain rfl : n = clN T := by omega
      have dd : ((clN T : Nat) : Int) = T 0 0 * T 0 1 := by unfold clN; omega
      simp (disch := omega) only [e_bi, e_bind, e_let, e_tr, e_tl, cLm1, cLm2, cL0, cL1, cL2, cL3, cL4, cL5, cL6, cL7, cL8, cL9, cL10, cL11, cL12, cL13, cL14, cL15, cL16, cL17, cL18, cL19, cL20, cL21, cL22, cL23, cL24, cL25, cL29, cL30, cL31, cL32, cL36, cL48, cL50, cL51, cL52, cL64, cL99, cL100, cL700, cL1000, cL9999, cL10000, cI_add, cI_sub, cI_mul, cI_neg, cI_lt, cI_le, cI_eq, ne_eq, ifp, ifn, bI_p, bI_n, aZ_0, aZ_1, aZ_b, e_gdt, e_ifT, e_ifF, not_true_eq_false, not_false_eq_true, e_gd, ck.1, ck.2]
      exact ok_someI (Or.inr ⟨_, rfl, fin D2 (by omega) (Or.inl rfl) f1 f2 f3⟩)
  · simp (disch := omega) only [e_bi, e_bind, e_let, e_tr, e_tl, cLm1, cLm2, cL0, cL1, cL2, cL3, cL4, cL5, cL6, cL7, cL8, cL9, cL10, cL11, cL12, cL13, cL14, cL15, cL16, cL17, cL18, cL19, cL20, cL21, cL22, cL23, cL24, cL25, cL29, cL30, cL31, cL32, cL36, cL48, cL50, cL51, cL52, cL64, cL99, cL100, cL700, cL1000, cL9999, cL10000, cI_add, cI_sub, cI_mul, cI_neg, cI_lt, cI_le, cI_eq, ne_eq, ifp, ifn, bI_p, bI_n, aZ_0, aZ_1, aZ_b, e_gdt, e_ifT, e_ifF, not_true_eq_false, not_false_eq_true, e_gd, p3]
    obtain rfl : i = (T 0 2).toNat := by omega
    exact ok_someI (Or.inr ⟨_, rfl, ok_someI ⟨rfl, g1, g3⟩⟩)
end GRO
