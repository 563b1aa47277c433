/-! the tables of the walk; sums by winds -/
section WLK
def gtN (T : aT) (i : Nat) : Int := T 11 (T 14 i).toNat
def hrN (T : aT) (i : Nat) : Int := (T 15 0 + i) % 24
def frN (T : aT) (m : Int) (w i p : Nat) : Int := scN T (T 8 p) m (T 9 p) (gtN T i) (T 15 1) (hrN T i) w
def tbN (D : aD) (T : aT) (Z : Nat → Nat → Prop) : Prop := ∀ w i p : Nat, Z w p → (i : Int) < T 0 5 → gI D 64 ((w * 5 + i) * 12 + p) = cI (frN T 1 w i p) ∧ gI D 65 ((w * 5 + i) * 12 + p) = cI (frN T 3 w i p)
theorem hr_b {T : aT} {i : Nat} (h : 0 ≤ T 15 0) : 0 ≤ hrN T i ∧ hrN T i < 24 := by unfold hrN; omega
theorem carry_ok {D : aD} {T T' : aT} {Z : Nat → Nat → Prop} {p w : Nat} (hp : TOKp T) (hn : TOKn T) (hC : CP D 2 T) (hN : CNow D T) (hs : scn T T') (h13 : p < 12) (hw : w < 5) (h61 : gI D 61 p = cI (T' 8 p)) (b1 : 0 ≤ T' 8 p) (b2 : T' 8 p < T 0 2) (b3 : 0 ≤ T' 9 p) (b4 : T' 9 p < T 0 0 * T 0 1) (hZ : tbN D T' Z) (hZ2 : ∀ w p : Nat, Z w p → w < 5 ∧ p < 12) :
    Ok (f_X1_carry (cI (p : Int)) (cI (T' 9 p)) (cI (w : Int)) D) (fun D' => tbN D' T' (fun w' p' => Z w' p' ∨ (w' = w ∧ p' = p)) ∧ ∀ k j : Nat, k ≠ 64 → k ≠ 65 → gI D' k j = gI D k j) := by
  have hq := hp.1
  have hq2 := hn.1
  have hQ : T' 0 5 = T 0 5 := hs.1 5 (by omega)
  have e : ((p : Int)).toNat = p := by omega
  unfold f_X1_carry J_X1_carry_11
  simp (disch := omega) only [e_bi, e_bind, e_let, e_tr, e_tl, cLm1, cLm2, cL0, cL1, cL2, cL3, cL4, cL5, cL6, cL7, cL8, cL9, cL10, cL11, cL12, cL13, cL14, cL15, cL16, cL17, cL18, cL19, cL20, cL21, cL22, cL23, cL24, cL25, cL29, cL30, cL31, cL32, cL36, cL48, cL50, cL51, cL52, cL64, cL99, cL100, cL700, cL1000, cL9999, cL10000, cI_add, cI_sub, cI_mul, cI_neg, cI_lt, cI_le, cI_eq, ne_eq, ifp, ifn, bI_p, bI_n, aZ_0, aZ_1, aZ_b, e_gdt, e_ifT, e_ifF, not_true_eq_false, not_false_eq_true, e_gd, cI_inT, cI_nat, e, h61]
  refine ok_bindI (ok_lp (fun i t => t.1 = cI (i : Int) ∧ tbN t.2 T' Z ∧ (∀ j : Nat, j < i → gI t.2 64 ((w * 5 + j) * 12 + p) = cI (frN T' 1 w j p) ∧ gI t.2 65 ((w * 5 + j) * 12 + p) = cI (frN T' 3 w j p)) ∧ ∀ k j : Nat, k ≠ 64 → k ≠ 65 → gI t.2 k j = gI D k j) (T 0 5).toNat (by omega) ⟨rfl, hZ, fun j h => absurd h (by omega), fun _ _ _ _ => rfl⟩ ?_)
  rintro i ⟨x, D1⟩ hi ⟨rfl, h1, h2, h3⟩
  show Ok (B_X1_carry_11 (cI (p : Int)) (cI (T' 9 p)) (cI (w : Int)) (cI (T' 8 p)) (cI (i : Int)) D1) _
  obtain ⟨hC1, hN1⟩ := cF hp hC hN (D' := D1) (fun k j hk => h3 k j (by omega) (by omega))
  obtain ⟨-, -, q3, -, -, -, -, -, q9, -⟩ := CP.two hC1
  obtain ⟨-, r2, -, -, -, -, -, r8, r9, -⟩ := CNow.two hN1
  unfold B_X1_carry_11 f_X1_placeOf
  by_cases c : (i : Int) < T 0 5
  · have o := hn.2.2.1 i c
    have g := hp.2.2.2.2.1 (T 14 i).toNat (by omega)
    have ei : ((i : Int)).toNat = i := by omega
    have r2' := r2 i (by omega)
    have q9' := q9 (T 14 i).toNat (by omega)
    have hr := hr_b (T := T) (i := i) hq2.1
    have hr' := hr
    unfold hrN at hr'
    have ex : (((w : Int) * 5 + (i : Int)) * 12 + (p : Int)).toNat = (w * 5 + i) * 12 + p := by omega
    have k := fun (D : aD) (hC : CP D 2 T) m hm => scent_eq (s := T' 8 p) (f := T' 9 p) (t := T 11 (T 14 i).toNat) (week := T 15 1) (hour := (T 15 0 + i) % 24) (w := (w : Int)) (m := m) hp hC b1 b2 hm b3 b4 g.1 g.2 (by omega) (by omega) hr'.1 (by omega) (by omega) (by omega)
    have f1 : frN T' 1 w i p = scN T (T' 8 p) 1 (T' 9 p) (T 11 (T 14 i).toNat) (T 15 1) ((T 15 0 + i) % 24) w := by
      unfold frN gtN hrN
      rw [sc_cg hs, hs.2.2.1, hs.2.2.2.2.1, hs.2.2.2.2.2]
    have f3 : frN T' 3 w i p = scN T (T' 8 p) 3 (T' 9 p) (T 11 (T 14 i).toNat) (T 15 1) ((T 15 0 + i) % 24) w := by
      unfold frN gtN hrN
      rw [sc_cg hs, hs.2.2.1, hs.2.2.2.2.1, hs.2.2.2.2.2]
    have hC2 : ∀ x, CP (pI D1 64 ((w * 5 + i) * 12 + p) x) 2 T := fun x => hC1.fr hp (fun k j hk => gI_fr (by omega))
    simp (disch := omega) only [e_bi, e_bind, e_let, e_tr, e_tl, cLm1, cLm2, cL0, cL1, cL2, cL3, cL4, cL5, cL6, cL7, cL8, cL9, cL10, cL11, cL12, cL13, cL14, cL15, cL16, cL17, cL18, cL19, cL20, cL21, cL22, cL23, cL24, cL25, cL29, cL30, cL31, cL32, cL36, cL48, cL50, cL51, cL52, cL64, cL99, cL100, cL700, cL1000, cL9999, cL10000, cI_add, cI_sub, cI_mul, cI_neg, cI_lt, cI_le, cI_eq, ne_eq, ifp, ifn, bI_p, bI_n, aZ_0, aZ_1, aZ_b, e_gdt, e_ifT, e_ifF, not_true_eq_false, not_false_eq_true, e_gd, q3, cI_inT, cI_nat, ei, r2', q9', r8, r9, cI_div, rem_e, k D1 hC1 1 (Or.inl rfl), ex, gI_fr]
    rw [k _ (hC2 _) 3 (Or.inr rfl)]
    simp (disch := omega) only [e_bi, e_bind, e_let, e_tr, e_tl, cLm1, cLm2, cL0, cL1, cL2, cL3, cL4, cL5, cL6, cL7, cL8, cL9, cL10, cL11, cL12, cL13, cL14, cL15, cL16, cL17, cL18, cL19, cL20, cL21, cL22, cL23, cL24, cL25, cL29, cL30, cL31, cL32, cL36, cL48, cL50, cL51, cL52, cL64, cL99, cL100, cL700, cL1000, cL9999, cL10000, cI_add, cI_sub, cI_mul, cI_neg, cI_lt, cI_le, cI_eq, ne_eq, ifp, ifn, bI_p, bI_n, aZ_0, aZ_1, aZ_b, e_gdt, e_ifT, e_ifF, not_true_eq_false, not_false_eq_true, e_gd]
    rw [← f1, ← f3]
    refine ok_someI (Or.inl ⟨_, rfl, by omega, rfl, fun w' i' p' hz hi' => ?_, fun j hj => ?_, fun k j a b => ?_⟩)
    · have z := hZ2 w' p' hz
      show gI (pI (pI D1 64 _ (cI (frN T' 1 w i p))) 65 _ (cI (frN T' 3 w i p))) 64 _ = _ ∧ gI (pI (pI D1 64 _ (cI (frN T' 1 w i p))) 65 _ (cI (frN T' 3 w i p))) 65 _ = _
      by_cases y : w' = w ∧ i' = i ∧ p' = p
      · obtain ⟨rfl, rfl, rfl⟩ := y
        exact ⟨(gI_fr (by omega)).trans gI_eq, gI_eq⟩
      · rw [gI_fr (by omega), gI_fr (by omega), gI_fr (by omega), gI_fr (by omega)]
        exact h1 w' i' p' hz hi'
    · show gI (pI (pI D1 64 _ (cI (frN T' 1 w i p))) 65 _ (cI (frN T' 3 w i p))) 64 _ = _ ∧ gI (pI (pI D1 64 _ (cI (frN T' 1 w i p))) 65 _ (cI (frN T' 3 w i p))) 65 _ = _
      by_cases y : j = i
      · subst y
        exact ⟨(gI_fr (by omega)).trans gI_eq, gI_eq⟩
      · rw [gI_fr (by omega), gI_fr (by omega), gI_fr (by omega), gI_fr (by omega)]
        exact h2 j (by omega)
    · show gI (pI (pI D1 64 _ (cI (frN T' 1 w i p))) 65 _ (cI (frN T' 3 w i p))) k j = _
      rw [gI_fr (by omega), gI_fr (by omega)]
      exact h3 k j a b
  · simp (disch := omega) only [e_bi, e_bind, e_let, e_tr, e_tl, cLm1, cLm2, cL0, cL1, cL2, cL3, cL4, cL5, cL6, cL7, cL8, cL9, cL10, cL11, cL12, cL13, cL14, cL15, cL16, cL17, cL18, cL19, cL20, cL21, cL22, cL23, cL24, cL25, cL29, cL30, cL31, cL32, cL36, cL48, cL50, cL51, cL52, cL64, cL99, cL100, cL700, cL1000, cL9999, cL10000, cI_add, cI_sub, cI_mul, cI_neg, cI_lt, cI_le, cI_eq, ne_eq, ifp, ifn, bI_p, bI_n, aZ_0, aZ_1, aZ_b, e_gdt, e_ifT, e_ifF, not_true_eq_false, not_false_eq_true, e_gd, q3]
    refine ok_someI (Or.inr ⟨_, rfl, ok_someI ⟨fun w' i' p' hz hi' => ?_, h3⟩⟩)
    rcases hz with hz | ⟨rfl, rfl⟩
    · exact h1 w' i' p' hz hi'
    · exact h2 i' (by omega)
/-- the contest's own cells: the plants of T', the tables of the winds of W -/
def CK (D : aD) (T : aT) (W : Nat → Prop) : Prop := gI D 60 3 = cI (T 0 4) ∧ (∀ p : Nat, (p : Int) < T 0 4 → gI D 61 p = cI (T 8 p) ∧ gI D 62 p = cI (T 10 p) ∧ gI D 63 p = cI (T 13 p)) ∧ tbN D T (fun w p => W w ∧ w < 5 ∧ (p : Int) < T 0 4)
theorem copyPlants_ok {D : aD} {T : aT} (hp : TOKp T) (hC : CP D 2 T) (hN : CNow D T) : Ok (f_X1_copyPlants D) (fun D' => (gI D' 60 3 = cI (T 0 4) ∧ (∀ p : Nat, (p : Int) < T 0 4 → gI D' 61 p = cI (T 8 p) ∧ gI D' 62 p = cI (T 10 p) ∧ gI D' 63 p = cI (T 13 p))) ∧ ∀ k j : Nat, ¬ (60 ≤ k ∧ k ≤ 63) → gI D' k j = gI D k j) := by
  have hq := hp.1
  obtain ⟨-, -, q3, -, -, q6, -, q8, -⟩ := CP.two hC
  have r1 := (CNow.two hN).1
  have q4 := q3 4 (by omega) (by omega)
  unfold f_X1_copyPlants
  simp (disch := omega) only [e_bi, e_bind, e_let, e_tr, e_tl, cLm1, cLm2, cL0, cL1, cL2, cL3, cL4, cL5, cL6, cL7, cL8, cL9, cL10, cL11, cL12, cL13, cL14, cL15, cL16, cL17, cL18, cL19, cL20, cL21, cL22, cL23, cL24, cL25, cL29, cL30, cL31, cL32, cL36, cL48, cL50, cL51, cL52, cL64, cL99, cL100, cL700, cL1000, cL9999, cL10000, cI_add, cI_sub, cI_mul, cI_neg, cI_lt, cI_le, cI_eq, ne_eq, ifp, ifn, bI_p, bI_n, aZ_0, aZ_1, aZ_b, e_gdt, e_ifT, e_ifF, not_true_eq_false, not_false_eq_true, e_gd, cg_c, q4]
  refine ok_someI ⟨⟨?_, fun p hp => ⟨?_, ?_, ?_⟩⟩, fun k j hk => ?_⟩
  · simp (disch := omega) only [cp_N, gI_eq]
  · simp (disch := omega) only [cp_N, cp_E, gI_fr]; exact q6 p hp
  · simp (disch := omega) only [cp_N, cp_E, gI_fr]; exact q8 p hp
  · simp (disch := omega) only [cp_N, cp_E, gI_fr]; exact r1 p hp
  · simp (disch := omega) only [cp_N, gI_fr]
theorem prepare_ok {D : aD} {T : aT} {w : Nat} (hp : TOKp T) (hn : TOKn T) (hC : CP D 2 T) (hN : CNow D T) (hw : w < 5) : Ok (f_X1_prepare (cI (w : Int)) D) (fun D' => CK D' T (fun x => x = w) ∧ ∀ k j : Nat, ¬ (60 ≤ k ∧ k ≤ 65) → gI D' k j = gI D k j) := by
  have hq := hp.1
  unfold f_X1_prepare
  refine ok_bindI ((copyPlants_ok hp hC hN).mono fun D1 q => ?_)
  obtain ⟨⟨q1, q2⟩, q3⟩ := q
  unfold J_X1_prepare_6
  refine ok_bindI (ok_lp (fun i t => t.1 = cI (i : Int) ∧ tbN t.2 T (fun x p => x = w ∧ p < i ∧ (p : Int) < T 0 4) ∧ ∀ k j : Nat, k ≠ 64 → k ≠ 65 → gI t.2 k j = gI D1 k j) (T 0 4).toNat (by omega) ⟨rfl, fun w i p hz => absurd hz.2.1 (by omega), fun _ _ _ _ => rfl⟩ ?_)
  rintro i ⟨x, D2⟩ hi ⟨rfl, h1, h2⟩
  show Ok (B_X1_prepare_6 (cI (w : Int)) (cI (i : Int)) D2) _
  obtain ⟨hC2, hN2⟩ := cF hp hC hN (D' := D2) (fun k j hk => (h2 k j (by omega) (by omega)).trans (q3 k j (by omega)))
  obtain ⟨-, -, -, -, -, -, r7, -⟩ := CP.two hC2
  have p1 : gI D2 60 3 = cI (T 0 4) := (h2 _ _ (by omega) (by omega)).trans q1
  have e : ((i : Int)).toNat = i := by omega
  unfold B_X1_prepare_6
  by_cases c : (i : Int) < T 0 4
  · have r := hp.2.2.2.1 i c
    simp (disch := omega) only [e_bi, e_bind, e_let, e_tr, e_tl, cLm1, cLm2, cL0, cL1, cL2, cL3, cL4, cL5, cL6, cL7, cL8, cL9, cL10, cL11, cL12, cL13, cL14, cL15, cL16, cL17, cL18, cL19, cL20, cL21, cL22, cL23, cL24, cL25, cL29, cL30, cL31, cL32, cL36, cL48, cL50, cL51, cL52, cL64, cL99, cL100, cL700, cL1000, cL9999, cL10000, cI_add, cI_sub, cI_mul, cI_neg, cI_lt, cI_le, cI_eq, ne_eq, ifp, ifn, bI_p, bI_n, aZ_0, aZ_1, aZ_b, e_gdt, e_ifT, e_ifF, not_true_eq_false, not_false_eq_true, e_gd, p1, cI_inT, cI_nat, e, r7]
    refine ok_bindI ((carry_ok hp hn hC2 hN2 scn.rf (by omega) hw ((h2 _ _ (by omega) (by omega)).trans (q2 i c).1) r.1 r.2.1 r.2.2.1 r.2.2.2.1 h1 (fun w p z => by omega)).mono fun D3 k => ok_someI (Or.inl ⟨_, rfl, by omega, rfl, fun w' i' p' z hi' => k.1 w' i' p' (by omega) hi', fun k' j a b => (k.2 k' j a b).trans (h2 k' j a b)⟩))
  · simp (disch := omega) only [e_bi, e_bind, e_let, e_tr, e_tl, cLm1, cLm2, cL0, cL1, cL2, cL3, cL4, cL5, cL6, cL7, cL8, cL9, cL10, cL11, cL12, cL13, cL14, cL15, cL16, cL17, cL18, cL19, cL20, cL21, cL22, cL23, cL24, cL25, cL29, cL30, cL31, cL32, cL36, cL48, cL50, cL51, cL52, cL64, cL99, cL100, cL700, cL1000, cL9999, cL10000, cI_add, cI_sub, cI_mul, cI_neg, cI_lt, cI_le, cI_eq, ne_eq, ifp, ifn, bI_p, bI_n, aZ_0, aZ_1, aZ_b, e_gdt, e_ifT, e_ifF, not_true_eq_false, not_false_eq_true, e_gd, p1]
    refine ok_someI (Or.inr ⟨_, rfl, ok_someI ⟨⟨p1, fun p hp => ?_, fun w' i' p' z hi' => h1 w' i' p' ⟨z.1, by omega, z.2.2⟩ hi'⟩, fun k j a => (h2 k j (by omega) (by omega)).trans (q3 k j (by omega))⟩⟩)
    obtain ⟨a1, a2, a3⟩ := q2 p hp
    exact ⟨(h2 _ _ (by omega) (by omega)).trans a1, (h2 _ _ (by omega) (by omega)).trans a2, (h2 _ _ (by omega) (by omega)).trans a3⟩
def wOn (T : aT) (w : Nat) : Prop := w = 0 ∨ 0 < T 0 (10 + w)
theorem carryAll_ok {D : aD} {T T' : aT} {Z : Nat → Nat → Prop} {p : Nat} (hp : TOKp T) (hn : TOKn T) (hC : CP D 2 T) (hN : CNow D T) (hs : scn T T') (h13 : p < 12) (h61 : gI D 61 p = cI (T' 8 p)) (b1 : 0 ≤ T' 8 p) (b2 : T' 8 p < T 0 2) (b3 : 0 ≤ T' 9 p) (b4 : T' 9 p < T 0 0 * T 0 1) (hZ : tbN D T' Z) (hZ2 : ∀ w p : Nat, Z w p → w < 5 ∧ p < 12) :
    Ok (f_X1_carryAll (cI (p : Int)) (cI (T' 9 p)) D) (fun D' => tbN D' T' (fun w' p' => Z w' p' ∨ (wOn T w' ∧ w' < 5 ∧ p' = p)) ∧ ∀ k j : Nat, k ≠ 64 → k ≠ 65 → gI D' k j = gI D k j) := by
  have hq := hp.1
  unfold f_X1_carryAll J_X1_carryAll_2
  refine ok_bindI (ok_lp (fun i t => t.1 = cI (i : Int) ∧ tbN t.2 T' (fun w' p' => Z w' p' ∨ (wOn T w' ∧ w' < 5 ∧ w' < i ∧ p' = p)) ∧ ∀ k j : Nat, k ≠ 64 → k ≠ 65 → gI t.2 k j = gI D k j) 5 (by omega) ⟨rfl, fun w' i' p' z hi' => hZ w' i' p' (z.elim id (fun z => absurd z.2.2.1 (by omega))) hi', fun _ _ _ _ => rfl⟩ ?_)
  rintro i ⟨x, D1⟩ hi ⟨rfl, h1, h2⟩
  show Ok (B_X1_carryAll_2 (cI (p : Int)) (cI (T' 9 p)) (cI (i : Int)) D1) _
  obtain ⟨hC1, hN1⟩ := cF hp hC hN (D' := D1) (fun k j hk => h2 k j (by omega) (by omega))
  obtain ⟨-, -, -, q4, -⟩ := CP.two hC1
  have e : ((i : Int)).toNat = i := by omega
  have go : wOn T i → i < 5 → Ok (J_X1_carryAll_23 (cI (p : Int)) (cI (T' 9 p)) (cI (i : Int)) D1) (fun r => (∃ s', r = .inl s' ∧ i < 5 ∧ (fun (i : Nat) (t : Int32 × aD) => t.1 = cI (i : Int) ∧ tbN t.2 T' (fun w' p' => Z w' p' ∨ (wOn T w' ∧ w' < 5 ∧ w' < i ∧ p' = p)) ∧ ∀ k j : Nat, k ≠ 64 → k ≠ 65 → gI t.2 k j = gI D k j) (i + 1) s') ∨ ∃ q, r = .inr q ∧ Ok (J_X1_carryAll_36 q) (fun D' => tbN D' T' (fun w' p' => Z w' p' ∨ (wOn T w' ∧ w' < 5 ∧ p' = p)) ∧ ∀ k j : Nat, k ≠ 64 → k ≠ 65 → gI D' k j = gI D k j)) := by
    intro ho h5
    unfold J_X1_carryAll_23
    refine ok_bindI ((carry_ok (Z := fun w' p' => Z w' p' ∨ (wOn T w' ∧ w' < 5 ∧ w' < i ∧ p' = p)) hp hn hC1 hN1 hs h13 (by omega) ((h2 _ _ (by omega) (by omega)).trans h61) b1 b2 b3 b4 h1 (fun w p' z => z.elim (hZ2 w p') (fun z => by omega))).mono fun D3 k => ?_)
    simp only [cL1, e_let, cI_add]
    refine ok_someI (Or.inl ⟨_, rfl, h5, rfl, fun w' i' p' z hi' => k.1 w' i' p' ?_ hi', fun k' j a b => (k.2 k' j a b).trans (h2 k' j a b)⟩)
    rcases z with z | ⟨z1, z2, z3, z4⟩
    · exact Or.inl (Or.inl z)
    · by_cases y : w' = i
      · exact Or.inr ⟨y, z4⟩
      · exact Or.inl (Or.inr ⟨z1, z2, by omega, z4⟩)
  unfold B_X1_carryAll_2
  by_cases c : i < 5
  · by_cases c0 : i = 0
    · simp (disch := omega) only [e_bi, e_bind, e_let, e_tr, e_tl, cLm1, cLm2, cL0, cL1, cL2, cL3, cL4, cL5, cL6, cL7, cL8, cL9, cL10, cL11, cL12, cL13, cL14, cL15, cL16, cL17, cL18, cL19, cL20, cL21, cL22, cL23, cL24, cL25, cL29, cL30, cL31, cL32, cL36, cL48, cL50, cL51, cL52, cL64, cL99, cL100, cL700, cL1000, cL9999, cL10000, cI_add, cI_sub, cI_mul, cI_neg, cI_lt, cI_le, cI_eq, ne_eq, ifp, ifn, bI_p, bI_n, aZ_0, aZ_1, aZ_b, e_gdt, e_ifT, e_ifF, not_true_eq_false, not_false_eq_true, e_gd]
      exact go (Or.inl c0) c
    · have hw := hp.2.1 i c
      have q4' := q4 i c
      by_cases c1 : 0 < T 0 (10 + i)
      · simp (disch := omega) only [e_bi, e_bind, e_let, e_tr, e_tl, cLm1, cLm2, cL0, cL1, cL2, cL3, cL4, cL5, cL6, cL7, cL8, cL9, cL10, cL11, cL12, cL13, cL14, cL15, cL16, cL17, cL18, cL19, cL20, cL21, cL22, cL23, cL24, cL25, cL29, cL30, cL31, cL32, cL36, cL48, cL50, cL51, cL52, cL64, cL99, cL100, cL700, cL1000, cL9999, cL10000, cI_add, cI_sub, cI_mul, cI_neg, cI_lt, cI_le, cI_eq, ne_eq, ifp, ifn, bI_p, bI_n, aZ_0, aZ_1, aZ_b, e_gdt, e_ifT, e_ifF, not_true_eq_false, not_false_eq_true, e_gd, cI_inT, cI_nat, e, q4']
        exact go (Or.inr c1) c
      · simp (disch := omega) only [e_bi, e_bind, e_let, e_tr, e_tl, cLm1, cLm2, cL0, cL1, cL2, cL3, cL4, cL5, cL6, cL7, cL8, cL9, cL10, cL11, cL12, cL13, cL14, cL15, cL16, cL17, cL18, cL19, cL20, cL21, cL22, cL23, cL24, cL25, cL29, cL30, cL31, cL32, cL36, cL48, cL50, cL51, cL52, cL64, cL99, cL100, cL700, cL1000, cL9999, cL10000, cI_add, cI_sub, cI_mul, cI_neg, cI_lt, cI_le, cI_eq, ne_eq, ifp, ifn, bI_p, bI_n, aZ_0, aZ_1, aZ_b, e_gdt, e_ifT, e_ifF, not_true_eq_false, not_false_eq_true, e_gd, cI_inT, cI_nat, e, q4']
        refine ok_someI (Or.inl ⟨_, rfl, c, rfl, fun w' i' p' z hi' => h1 w' i' p' ?_ hi', h2⟩)
        rcases z with z | ⟨z1, z2, z3, z4⟩
        · exact Or.inl z
        · refine Or.inr ⟨z1, z2, ?_, z4⟩
          unfold wOn at z1
          by_cases y : w' = i
          · subst y; omega
          · omega
  · simp (disch := omega) only [e_bi, e_bind, e_let, e_tr, e_tl, cLm1, cLm2, cL0, cL1, cL2, cL3, cL4, cL5, cL6, cL7, cL8, cL9, cL10, cL11, cL12, cL13, cL14, cL15, cL16, cL17, cL18, cL19, cL20, cL21, cL22, cL23, cL24, cL25, cL29, cL30, cL31, cL32, cL36, cL48, cL50, cL51, cL52, cL64, cL99, cL100, cL700, cL1000, cL9999, cL10000, cI_add, cI_sub, cI_mul, cI_neg, cI_lt, cI_le, cI_eq, ne_eq, ifp, ifn, bI_p, bI_n, aZ_0, aZ_1, aZ_b, e_gdt, e_ifT, e_ifF, not_true_eq_false, not_false_eq_true, e_gd]
    refine ok_someI (Or.inr ⟨_, rfl, ok_someI ⟨fun w' i' p' z hi' => h1 w' i' p' ?_ hi', h2⟩⟩)
    rcases z with z | ⟨z1, z2, z4⟩
    · exact Or.inl z
    · exact Or.inr ⟨z1, z2, by omega, z4⟩
theorem prepareAll_ok {D : aD} {T : aT} (hp : TOKp T) (hn : TOKn T) (hC : CP D 2 T) (hN : CNow D T) : Ok (f_X1_prepareAll D) (fun D' => CK D' T (wOn T) ∧ ∀ k j : Nat, ¬ (60 ≤ k ∧ k ≤ 65) → gI D' k j = gI D k j) := by
  have hq := hp.1
  unfold f_X1_prepareAll
  refine ok_bindI ((copyPlants_ok hp hC hN).mono fun D1 q => ?_)
  obtain ⟨⟨q1, q2⟩, q3⟩ := q
  unfold J_X1_prepareAll_6
  refine ok_bindI (ok_lp (fun i t => t.1 = cI (i : Int) ∧ tbN t.2 T (fun x p => wOn T x ∧ x < 5 ∧ p < i ∧ (p : Int) < T 0 4) ∧ ∀ k j : Nat, k ≠ 64 → k ≠ 65 → gI t.2 k j = gI D1 k j) (T 0 4).toNat (by omega) ⟨rfl, fun w i p hz => absurd hz.2.2.1 (by omega), fun _ _ _ _ => rfl⟩ ?_)
  rintro i ⟨x, D2⟩ hi ⟨rfl, h1, h2⟩
  show Ok (B_X1_prepareAll_6 (cI (i : Int)) D2) _
  obtain ⟨hC2, hN2⟩ := cF hp hC hN (D' := D2) (fun k j hk => (h2 k j (by omega) (by omega)).trans (q3 k j (by omega)))
  obtain ⟨-, -, -, -, -, -, r7, -⟩ := CP.two hC2
  have p1 : gI D2 60 3 = cI (T 0 4) := (h2 _ _ (by omega) (by omega)).trans q1
  have e : ((i : Int)).toNat = i := by omega
  unfold B_X1_prepareAll_6
  by_cases c : (i : Int) < T 0 4
  · have r := hp.2.2.2.1 i c
    simp (disch := omega) only [e_bi, e_bind, e_let, e_tr, e_tl, cLm1, cLm2, cL0, cL1, cL2, cL3, cL4, cL5, cL6, cL7, cL8, cL9, cL10, cL11, cL12, cL13, cL14, cL15, cL16, cL17, cL18, cL19, cL20, cL21, cL22, cL23, cL24, cL25, cL29, cL30, cL31, cL32, cL36, cL48, cL50, cL51, cL52, cL64, cL99, cL100, cL700, cL1000, cL9999, cL10000, cI_add, cI_sub, cI_mul, cI_neg, cI_lt, cI_le, cI_eq, ne_eq, ifp, ifn, bI_p, bI_n, aZ_0, aZ_1, aZ_b, e_gdt, e_ifT, e_ifF, not_true_eq_false, not_false_eq_true, e_gd, p1, cI_inT, cI_nat, e, r7]
    refine ok_bindI ((carryAll_ok hp hn hC2 hN2 scn.rf (by omega) ((h2 _ _ (by omega) (by omega)).trans (q2 i c).1) r.1 r.2.1 r.2.2.1 r.2.2.2.1 h1 (fun w p z => by omega)).mono fun D3 k => ok_someI (Or.inl ⟨_, rfl, by omega, rfl, fun w' i' p' z hi' => k.1 w' i' p' ?_ hi', fun k' j a b => (k.2 k' j a b).trans (h2 k' j a b)⟩))
    by_cases y : p' = i
    · exact Or.inr ⟨z.1, z.2.1, y⟩
    · exact Or.inl ⟨z.1, z.2.1, by omega, z.2.2.2⟩
  · simp (disch := omega) only [e_bi, e_bind, e_let, e_tr, e_tl, cLm1, cLm2, cL0, cL1, cL2, cL3, cL4, cL5, cL6, cL7, cL8, cL9, cL10, cL11, cL12, cL13, cL14, cL15, cL16, cL17, cL18, cL19, cL20, cL21, cL22, cL23, cL24, cL25, cL29, cL30, cL31, cL32, cL36, cL48, cL50, cL51, cL52, cL64, cL99, cL100, cL700, cL1000, cL9999, cL10000, cI_add, cI_sub, cI_mul, cI_neg, cI_lt, cI_le, cI_eq, ne_eq, ifp, ifn, bI_p, bI_n, aZ_0, aZ_1, aZ_b, e_gdt, e_ifT, e_ifF, not_true_eq_false, not_false_eq_true, e_gd, p1]
    refine ok_someI (Or.inr ⟨_, rfl, ok_someI ⟨⟨p1, fun p hp => ?_, fun w' i' p' z hi' => h1 w' i' p' ⟨z.1, z.2.1, by omega, z.2.2⟩ hi'⟩, fun k j a => (h2 k j (by omega) (by omega)).trans (q3 k j (by omega))⟩⟩)
    obtain ⟨a1, a2, a3⟩ := q2 p hp
    exact ⟨(h2 _ _ (by omega) (by omega)).trans a1, (h2 _ _ (by omega) (by omega)).trans a2, (h2 _ _ (by omega) (by omega)).trans a3⟩
end WLK
