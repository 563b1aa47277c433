/-! grow, the reference's side -/
section GRM
theorem MS.frP {D D' : aD} {T : aT} (hT : TOKs T) (H : MS D T) (e : ∀ k j, (91 ≤ k ∧ k ≤ 103) ∨ k = 106 ∨ k = 107 → ¬ (j = (T 0 4).toNat ∧ (k = 99 ∨ k = 100 ∨ k = 101 ∨ k = 106)) → gI D' k j = gI D k j) (e2 : ∀ j, 30 ≤ j → j ≤ 32 → gI D' 88 j = gI D 88 j) : MS D' T := by
  have hq := hT.1
  exact ⟨fun j a b => (e _ _ (by omega) (by omega)).trans (H.1 j a b), fun f s a b => (e _ _ (by omega) (by omega)).trans (H.2.1 f s a b), fun r p a b => (e _ _ (by omega) (by omega)).trans (H.2.2.1 r p a b), fun i a => (e _ _ (by omega) (by omega)).trans (H.2.2.2.1 i a), fun m a => (e _ _ (by omega) (by omega)).trans (H.2.2.2.2.1 m a), (e2 _ (by omega) (by omega)).trans H.2.2.2.2.2.1, fun p a => (e _ _ (by omega) (by omega)).trans (H.2.2.2.2.2.2.1 p a), fun i a => (e _ _ (by omega) (by omega)).trans (H.2.2.2.2.2.2.2.1 i a), (e2 _ (by omega) (by omega)).trans H.2.2.2.2.2.2.2.2.1, (e2 _ (by omega) (by omega)).trans H.2.2.2.2.2.2.2.2.2⟩
/-- as rel.fr, but what lies at the place behind the plants -/
theorem rel.frP {D D' : aD} {T K : aT} {L : Int} {B : Nat → Int} (H : rel T K L B D)
    (e : ∀ k j : Nat, ¬ mScr k j → ¬ (j = (T 0 4).toNat ∧ (k = 99 ∨ k = 100 ∨ k = 101 ∨ k = 106)) → gI D' k j = gI D k j) : rel T K L B D' := by
  obtain ⟨hp, hn, h1, h2, h3, h4, h5, h6, h7, h8⟩ := H
  have hq := hp.1
  have e' : ∀ k j : Nat, ¬ (mScr k j ∨ (j = (T 0 4).toNat ∧ (k = 99 ∨ k = 100 ∨ k = 101 ∨ k = 106))) → gI D' k j = gI D k j := fun k j h => e k j (fun z => h (Or.inl z)) (fun z => h (Or.inr z))
  refine ⟨hp, hn, h1.fr hp (fun k j hk => e' _ j (by unfold mScr; omega)), aNow.fr h2 (fun j => e' _ j (by unfold mScr; omega)) (fun j => e' _ j (by unfold mScr; omega)) (fun r j hr => e' _ j (by unfold mScr; omega)) (fun j => e' _ j (by unfold mScr; omega)) (fun j hj => e' _ _ (by unfold mScr; omega)), ?_, ?_, h5.fr (fun k j a => e' k j (by unfold mScr; omega)), h6.fr (fun k j a => e' k j (by unfold mScr; omega)), ?_, h8.fr (fun k j a => e' k j (by unfold mScr; omega))⟩
  · obtain ⟨a1, a2, a3, a4, a5, a6⟩ := h3
    exact ⟨fun j a => (e' _ _ (by unfold mScr; omega)).trans (a1 j a), fun f s a b => (e' _ _ (by unfold mScr; omega)).trans (a2 f s a b), fun r p a b => (e' _ _ (by unfold mScr; omega)).trans (a3 r p a b), fun i a => (e' _ _ (by unfold mScr; omega)).trans (a4 i a), fun m a => (e' _ _ (by unfold mScr; omega)).trans (a5 m a), (e' _ _ (by unfold mScr; omega)).trans a6⟩
  · exact ⟨fun p a => (e' _ _ (by unfold mScr; omega)).trans (h4.1 p a), fun i a => (e' _ _ (by unfold mScr; omega)).trans (h4.2.1 i a), fun r i a b => (e' _ _ (by unfold mScr; omega)).trans (h4.2.2.1 r i a b), fun i a => (e' _ _ (by unfold mScr; omega)).trans (h4.2.2.2.1 i a), fun j a => (e' _ _ (by unfold mScr; omega)).trans (h4.2.2.2.2 j a)⟩
  · rw [e' 0 2 (by unfold mScr; omega), e' 88 27 (by unfold mScr; omega)]
    exact h7
def frQ (T : aT) (D D' : aD) : Prop := (∀ k j : Nat, ¬ (108 ≤ k ∧ k ≤ 112) → ¬ (k = 88 ∧ j = 30) → ¬ (j = (T 0 4).toNat ∧ (k = 99 ∨ k = 100 ∨ k = 101 ∨ k = 106)) → gI D' k j = gI D k j) ∧ D'.2 = D.2
theorem grow_mod {D : aD} {T : aT} {g : Nat} {b : Int32} (hT : TOKs T) (hM : MS D T) (hg : (g : Int) < T 0 3) (hP : T 0 4 < 12) {Q : Int32 × aD → Prop} (k : ∀ D' : aD, MS D' T → frQ T D D' → Ok (J_X12_grow_155 b (cI (grS T g (T 0 2).toNat).2) (cI (grS T g (T 0 2).toNat).1) D') Q) :
    Ok (J_X12_grow_36 (cI (g : Int)) b (-1) (-1) 0 D) Q := by
  have hq := hT.1
  unfold J_X12_grow_36
  refine ok_bindI (ok_lp (fun i t => t.1 = cI (grS T g i).2 ∧ t.2.1 = cI (grS T g i).1 ∧ t.2.2.1 = cI (i : Int) ∧ MS t.2.2.2 T ∧ frQ T D t.2.2.2) (T 0 2).toNat (by omega) ⟨rfl, rfl, rfl, hM, fun _ _ _ _ _ => rfl, rfl⟩ ?_)
  rintro i ⟨x, y, z, D1⟩ hi ⟨rfl, rfl, rfl, g1, g2⟩
  show Ok (B_X12_grow_36 (cI (g : Int)) b (cI (grS T g i).2) (cI (grS T g i).1) (cI (i : Int)) D1) _
  have m2 := g1.1 2 (by omega) (by omega)
  have m30 := g1.2.2.2.2.2.1
  have gb := grS_b (g := g) hT.2.1 i
  have ab := all_b hT.2.1
  unfold B_X12_grow_36
  by_cases c : (i : Int) < T 0 2
  · simp (disch := omega) only [e_bi, e_bind, e_let, e_tr, e_tl, cLm1, cLm2, cL0, cL1, cL2, cL3, cL4, cL5, cL6, cL7, cL8, cL9, cL10, cL11, cL12, cL13, cL14, cL15, cL16, cL17, cL18, cL19, cL20, cL21, cL22, cL23, cL24, cL25, cL29, cL30, cL31, cL32, cL36, cL48, cL50, cL51, cL52, cL64, cL99, cL100, cL700, cL1000, cL9999, cL10000, cI_add, cI_sub, cI_mul, cI_neg, cI_lt, cI_le, cI_eq, ne_eq, ifp, ifn, bI_p, bI_n, aZ_0, aZ_1, aZ_b, e_gdt, e_ifT, e_ifF, not_true_eq_false, not_false_eq_true, e_gd, cX0, cX1, cX2, cX3, cX4, cX5, cX6, cX7, cX8, cX9, cX10, cX11, cX12, cX13, cX14, cX15, cX16, cX17, cX18, cX19, cX20, cX21, cX22, cX23, cX24, cX25, cX29, cX30, cX31, cX32, cX36, Int.reduceToNat, cI_inT, m2, m30]
    unfold J_X12_grow_59
    refine ok_bindI (ok_lp (fun n t => t.1 = cI (grC T g i (grS T g i) n).2 ∧ t.2.1 = cI (grC T g i (grS T g i) n).1 ∧ t.2.2.1 = cI (n : Int) ∧ MS t.2.2.2 T ∧ frQ T D t.2.2.2) (clN T) (by unfold clN; omega) ⟨rfl, rfl, rfl, g1, g2⟩ ?_)
    rintro n ⟨x, y, z, D2⟩ hn' ⟨rfl, rfl, rfl, f1, f2⟩
    show Ok (B_X12_grow_59 (cI (g : Int)) b (cI (i : Int)) (cI (grC T g i (grS T g i) n).2) (cI (grC T g i (grS T g i) n).1) (cI (n : Int)) D2) _
    have m0 := f1.1 0 (by omega) (by omega)
    have m1 := f1.1 1 (by omega) (by omega)
    have n30 := f1.2.2.2.2.2.1
    have cb := grC_b (g := g) (s := i) hT.2.1 gb n
    unfold B_X12_grow_59
    by_cases d : n < clN T
    · have dd : (n : Int) < T 0 0 * T 0 1 := by unfold clN at d; omega
      have st : grC T g i (grS T g i) (n + 1) = if takenN T n = true then grC T g i (grS T g i) n else if (grC T g i (grS T g i) n).1 < wtN (plT T i n g) g 5 then (wtN (plT T i n g) g 5, 64 * (i : Int) + n) else grC T g i (grS T g i) n := rfl
      have hh := hasPlant_eq (c := n) hT f1 (by omega) (by omega)
      by_cases t : takenN T n = true
      · rw [if_pos t] at st hh
        simp (disch := omega) only [e_bi, e_bind, e_let, e_tr, e_tl, cLm1, cLm2, cL0, cL1, cL2, cL3, cL4, cL5, cL6, cL7, cL8, cL9, cL10, cL11, cL12, cL13, cL14, cL15, cL16, cL17, cL18, cL19, cL20, cL21, cL22, cL23, cL24, cL25, cL29, cL30, cL31, cL32, cL36, cL48, cL50, cL51, cL52, cL64, cL99, cL100, cL700, cL1000, cL9999, cL10000, cI_add, cI_sub, cI_mul, cI_neg, cI_lt, cI_le, cI_eq, ne_eq, ifp, ifn, bI_p, bI_n, aZ_0, aZ_1, aZ_b, e_gdt, e_ifT, e_ifF, not_true_eq_false, not_false_eq_true, e_gd, cX0, cX1, cX2, cX3, cX4, cX5, cX6, cX7, cX8, cX9, cX10, cX11, cX12, cX13, cX14, cX15, cX16, cX17, cX18, cX19, cX20, cX21, cX22, cX23, cX24, cX25, cX29, cX30, cX31, cX32, cX36, Int.reduceToNat, cI_inT, m0, m1, n30, hh]
        refine ok_someI (Or.inl ⟨_, rfl, d, ?_, ?_, rfl, f1, f2⟩)
        · rw [st]
        · rw [st]
      · rw [if_neg t] at st hh
        simp (disch := omega) only [e_bi, e_bind, e_let, e_tr, e_tl, cLm1, cLm2, cL0, cL1, cL2, cL3, cL4, cL5, cL6, cL7, cL8, cL9, cL10, cL11, cL12, cL13, cL14, cL15, cL16, cL17, cL18, cL19, cL20, cL21, cL22, cL23, cL24, cL25, cL29, cL30, cL31, cL32, cL36, cL48, cL50, cL51, cL52, cL64, cL99, cL100, cL700, cL1000, cL9999, cL10000, cI_add, cI_sub, cI_mul, cI_neg, cI_lt, cI_le, cI_eq, ne_eq, ifp, ifn, bI_p, bI_n, aZ_0, aZ_1, aZ_b, e_gdt, e_ifT, e_ifF, not_true_eq_false, not_false_eq_true, e_gd, cX0, cX1, cX2, cX3, cX4, cX5, cX6, cX7, cX8, cX9, cX10, cX11, cX12, cX13, cX14, cX15, cX16, cX17, cX18, cX19, cX20, cX21, cX22, cX23, cX24, cX25, cX29, cX30, cX31, cX32, cX36, Int.reduceToNat, cI_inT, m0, m1, n30, hh]
        refine ok_bindI ((growAs_ok (s := (i : Int)) (c := (n : Int)) (g := (g : Int)) hT f1 (by omega)).mono fun D3 q => ?_)
        obtain ⟨z1, z2, z3⟩ := q
        have hTp := pl_ok (s := (i : Int)) (c := (n : Int)) (g := (g : Int)) hT (by omega) (by omega) (by omega) (by omega) (by omega) (by omega) (by omega)
        have wb := wt_pl (s := (i : Int)) (c := (n : Int)) (g := g) (n := 0) hT.2.1
        refine ok_biI ((mwon_ok (T := plT T i n g) hTp z1 (by rw [pl_scn.1 3 (by omega)]; exact hg)).mono fun r q => ?_)
        obtain ⟨y, D4⟩ := r
        obtain ⟨y1, y2, y3⟩ := q
        obtain rfl : y = _ := y1
        have y2' : ∀ k j : Nat, ¬ (108 ≤ k ∧ k ≤ 112) → gI D4 k j = gI D3 k j := y2
        have m30' : gI D4 88 30 = cI (T 0 4 + 1) := by
          have h := z1.2.2.2.2.2.1
          rw [pl_04] at h
          exact (y2' _ _ (by omega)).trans h
        have e5 : T 0 4 + 1 - 1 = T 0 4 := by omega
        have hM5 : MS (pI D4 88 30 (cI (T 0 4))) T := by
          refine f1.frP hT (fun k j a b => ?_) (fun j a b => ?_)
          · rw [gI_fr (by omega), y2' _ _ (by omega), z2 _ _ (by omega) b]
          · by_cases e : j = 30
            · subst e; rw [gI_eq]; exact n30.symm
            · rw [gI_fr (by omega), y2' _ _ (by omega), z2 _ _ (by omega) (by omega)]
        have hF5 : frQ T D (pI D4 88 30 (cI (T 0 4))) := ⟨fun k j a b c => by rw [gI_fr (by omega), y2' _ _ a, z2 _ _ b c]; exact f2.1 k j a b c, (y3.trans z3).trans f2.2⟩
        by_cases bb : (grC T g i (grS T g i) n).1 < wtN (plT T i n g) g 5
        · rw [if_pos bb] at st
          simp (disch := omega) only [e_bi, e_bind, e_let, e_tr, e_tl, cLm1, cLm2, cL0, cL1, cL2, cL3, cL4, cL5, cL6, cL7, cL8, cL9, cL10, cL11, cL12, cL13, cL14, cL15, cL16, cL17, cL18, cL19, cL20, cL21, cL22, cL23, cL24, cL25, cL29, cL30, cL31, cL32, cL36, cL48, cL50, cL51, cL52, cL64, cL99, cL100, cL700, cL1000, cL9999, cL10000, cI_add, cI_sub, cI_mul, cI_neg, cI_lt, cI_le, cI_eq, ne_eq, ifp, ifn, bI_p, bI_n, aZ_0, aZ_1, aZ_b, e_gdt, e_ifT, e_ifF, not_true_eq_false, not_false_eq_true, e_gd, cL64, m30', e5]
          refine ok_someI (Or.inl ⟨_, rfl, d, ?_, ?_, rfl, hM5, hF5⟩)
          · rw [st]
          · rw [st]
        · rw [if_neg bb] at st
          simp (disch := omega) only [e_bi, e_bind, e_let, e_tr, e_tl, cLm1, cLm2, cL0, cL1, cL2, cL3, cL4, cL5, cL6, cL7, cL8, cL9, cL10, cL11, cL12, cL13, cL14, cL15, cL16, cL17, cL18, cL19, cL20, cL21, cL22, cL23, cL24, cL25, cL29, cL30, cL31, cL32, cL36, cL48, cL50, cL51, cL52, cL64, cL99, cL100, cL700, cL1000, cL9999, cL10000, cI_add, cI_sub, cI_mul, cI_neg, cI_lt, cI_le, cI_eq, ne_eq, ifp, ifn, bI_p, bI_n, aZ_0, aZ_1, aZ_b, e_gdt, e_ifT, e_ifF, not_true_eq_false, not_false_eq_true, e_gd, m30', e5]
          refine ok_someI (Or.inl ⟨_, rfl, d, ?_, ?_, rfl, hM5, hF5⟩)
          · rw [st]
          · rw [st]
    · obtain rfl : n = clN T := by omega
      have dd : ((clN T : Nat) : Int) = T 0 0 * T 0 1 := by unfold clN; omega
      simp (disch := omega) only [e_bi, e_bind, e_let, e_tr, e_tl, cLm1, cLm2, cL0, cL1, cL2, cL3, cL4, cL5, cL6, cL7, cL8, cL9, cL10, cL11, cL12, cL13, cL14, cL15, cL16, cL17, cL18, cL19, cL20, cL21, cL22, cL23, cL24, cL25, cL29, cL30, cL31, cL32, cL36, cL48, cL50, cL51, cL52, cL64, cL99, cL100, cL700, cL1000, cL9999, cL10000, cI_add, cI_sub, cI_mul, cI_neg, cI_lt, cI_le, cI_eq, ne_eq, ifp, ifn, bI_p, bI_n, aZ_0, aZ_1, aZ_b, e_gdt, e_ifT, e_ifF, not_true_eq_false, not_false_eq_true, e_gd, cX0, cX1, cX2, cX3, cX4, cX5, cX6, cX7, cX8, cX9, cX10, cX11, cX12, cX13, cX14, cX15, cX16, cX17, cX18, cX19, cX20, cX21, cX22, cX23, cX24, cX25, cX29, cX30, cX31, cX32, cX36, Int.reduceToNat, cI_inT, m0, m1]
      refine ok_someI (Or.inr ⟨_, rfl, ?_⟩)
      unfold J_X12_grow_149
      simp only [cL1, e_let, cI_add]
      exact ok_someI (Or.inl ⟨_, rfl, by omega, rfl, rfl, rfl, f1, f2⟩)
  · simp (disch := omega) only [e_bi, e_bind, e_let, e_tr, e_tl, cLm1, cLm2, cL0, cL1, cL2, cL3, cL4, cL5, cL6, cL7, cL8, cL9, cL10, cL11, cL12, cL13, cL14, cL15, cL16, cL17, cL18, cL19, cL20, cL21, cL22, cL23, cL24, cL25, cL29, cL30, cL31, cL32, cL36, cL48, cL50, cL51, cL52, cL64, cL99, cL100, cL700, cL1000, cL9999, cL10000, cI_add, cI_sub, cI_mul, cI_neg, cI_lt, cI_le, cI_eq, ne_eq, ifp, ifn, bI_p, bI_n, aZ_0, aZ_1, aZ_b, e_gdt, e_ifT, e_ifF, not_true_eq_false, not_false_eq_true, e_gd, cX0, cX1, cX2, cX3, cX4, cX5, cX6, cX7, cX8, cX9, cX10, cX11, cX12, cX13, cX14, cX15, cX16, cX17, cX18, cX19, cX20, cX21, cX22, cX23, cX24, cX25, cX29, cX30, cX31, cX32, cX36, Int.reduceToNat, cI_inT, m2]
    obtain rfl : i = (T 0 2).toNat := by omega
    exact ok_someI (Or.inr ⟨_, rfl, k D1 g1 g2⟩)
def gwN (T : aT) (g : Nat) (b : Int) : Int := if T 0 4 < 12 then (if b = 0 then (grS T g (T 0 2).toNat).2 else mxI (grS T g (T 0 2).toNat).1) else (if b = 0 then -1 else 0)
theorem grC_m {T : aT} {g s : Nat} {z : Int × Int} (h : ∀ w : Nat, w < 5 → 0 ≤ T 0 (10 + w) ∧ T 0 (10 + w) ≤ 99) (hz : z.1 = -1 → z.2 = -1) : ∀ c : Nat, (grC T g s z c).1 = -1 → (grC T g s z c).2 = -1
  | 0, h9 => hz h9
  | c + 1, h9 => by
    have b := wt_pl (s := (s : Int)) (c := (c : Int)) (g := g) (n := 0) h
    rw [grC] at h9 ⊢
    split at h9
    · rename_i t
      rw [if_pos t]
      exact grC_m h hz c h9
    · rename_i t
      rw [if_neg t]
      split at h9
      · rename_i u
        have : wtN (plT T s c g) g 5 = -1 := h9
        omega
      · rename_i u
        rw [if_neg u]
        exact grC_m h hz c h9
theorem grS_m {T : aT} {g : Nat} (h : ∀ w : Nat, w < 5 → 0 ≤ T 0 (10 + w) ∧ T 0 (10 + w) ≤ 99) : ∀ s : Nat, (grS T g s).1 = -1 → (grS T g s).2 = -1
  | 0, _ => rfl
  | s + 1, h9 => grC_m h (grS_m h s) (clN T) h9
theorem step_18 {D : aD} {v1 v2 v3 v4 v5 : Int32} (h : lawP D) : Ok2 (f_law_18 v1 v2 v3 v4 v5 D) (fun r D => r = 1 ∧ lawP D) := by
  obtain ⟨T, K, L, B, H⟩ := h
  have ⟨hp, hn, hC, hN, hM, hR, _⟩ := H
  have hq := hp.1
  obtain ⟨a, rfl, ha1, ha2⟩ := cI_of v1
  obtain ⟨b, rfl, hb1, hb2⟩ := cI_of v2
  have gb := fun g : Nat => grS_b (g := g) hp.2.1 (T 0 2).toNat
  have gm := fun g : Nat => grS_m (g := g) hp.2.1 (T 0 2).toNat
  have ab := all_b hp.2.1
  unfold f_law_18 f_L_grow
  by_cases x1 : 0 ≤ a ∧ a < T 0 3
  · by_cases x3 : 0 ≤ b ∧ b < 2
    · have ea : ((a.toNat : Nat) : Int) = a := by omega
      have eb : b = 0 ∨ b = 1 := by omega
      have gb' := gb a.toNat
      refine hp_step (fc := f_X11_grow (cI a) (cI b) D) (fm := fun D => f_X12_grow (cI a) (cI b) D) (P := lawP) (C := rel T K L B) (some (cI (gwN T a.toNat b))) (fun D x h => h) ?_ (fun D H => ?_)
      · unfold f_X11_grow
        simp (disch := omega) only [e_bi, e_bind, e_let, e_tr, e_tl, cLm1, cLm2, cL0, cL1, cL2, cL3, cL4, cL5, cL6, cL7, cL8, cL9, cL10, cL11, cL12, cL13, cL14, cL15, cL16, cL17, cL18, cL19, cL20, cL21, cL22, cL23, cL24, cL25, cL29, cL30, cL31, cL32, cL36, cL48, cL50, cL51, cL52, cL64, cL99, cL100, cL700, cL1000, cL9999, cL10000, cI_add, cI_sub, cI_mul, cI_neg, cI_lt, cI_le, cI_eq, ne_eq, ifp, ifn, bI_p, bI_n, aZ_0, aZ_1, aZ_b, e_gdt, e_ifT, e_ifF, not_true_eq_false, not_false_eq_true, e_gd, (needGarden_eq hp hC ha1 ha2).1 x1, isBelow_eq, need_1]
        refine odds_cls H (fun D1 hC1 hN1 hK1 H1 => ok_biI ?_)
        by_cases p : T 0 4 < 12
        · have k := pom_ok (g := a.toNat) hp hn hC1 hN1 hK1 (by omega) p
          rw [ea] at k
          refine k.mono fun r q => ?_
          obtain ⟨y, D2⟩ := r
          obtain ⟨q1, q2, q3⟩ := q
          obtain rfl : y = _ := q1
          have H2 : rel T K L B D2 := H1.cls q3
          by_cases z : (grS T a.toNat (T 0 2).toNat).1 = -1
          · have w : gwN T a.toNat b = if b = 0 then -1 else 0 := by
              unfold gwN
              rw [if_pos p, gm a.toNat z, z]
              rfl
            rw [w]
            rcases eb with rfl | rfl
            · simp (disch := omega) only [e_bi, e_bind, e_let, e_tr, e_tl, cLm1, cLm2, cL0, cL1, cL2, cL3, cL4, cL5, cL6, cL7, cL8, cL9, cL10, cL11, cL12, cL13, cL14, cL15, cL16, cL17, cL18, cL19, cL20, cL21, cL22, cL23, cL24, cL25, cL29, cL30, cL31, cL32, cL36, cL48, cL50, cL51, cL52, cL64, cL99, cL100, cL700, cL1000, cL9999, cL10000, cI_add, cI_sub, cI_mul, cI_neg, cI_lt, cI_le, cI_eq, ne_eq, ifp, ifn, bI_p, bI_n, aZ_0, aZ_1, aZ_b, e_gdt, e_ifT, e_ifF, not_true_eq_false, not_false_eq_true, e_gd]
              exact ok_someI ⟨rfl, H2⟩
            · simp (disch := omega) only [e_bi, e_bind, e_let, e_tr, e_tl, cLm1, cLm2, cL0, cL1, cL2, cL3, cL4, cL5, cL6, cL7, cL8, cL9, cL10, cL11, cL12, cL13, cL14, cL15, cL16, cL17, cL18, cL19, cL20, cL21, cL22, cL23, cL24, cL25, cL29, cL30, cL31, cL32, cL36, cL48, cL50, cL51, cL52, cL64, cL99, cL100, cL700, cL1000, cL9999, cL10000, cI_add, cI_sub, cI_mul, cI_neg, cI_lt, cI_le, cI_eq, ne_eq, ifp, ifn, bI_p, bI_n, aZ_0, aZ_1, aZ_b, e_gdt, e_ifT, e_ifF, not_true_eq_false, not_false_eq_true, e_gd]
              exact ok_someI ⟨rfl, H2⟩
          · obtain ⟨s, c, e1, e2, e3⟩ := q2 z
            have e1' : gI D2 68 8 = cI s := e1
            have e2' : gI D2 68 9 = cI c := e2
            have w : gwN T a.toNat b = if b = 0 then s * 64 + c else (grS T a.toNat (T 0 2).toNat).1 := by
              unfold gwN mxI
              rw [if_pos p, e3]
              by_cases b0 : b = 0
              · rw [if_pos b0, if_pos b0]
              · rw [if_neg b0, if_neg b0]
                by_cases m0 : 0 < (grS T a.toNat (T 0 2).toNat).1
                · rw [if_pos m0]
                · rw [if_neg m0]; omega
            rw [w]
            rcases eb with rfl | rfl
            · simp (disch := omega) only [e_bi, e_bind, e_let, e_tr, e_tl, cLm1, cLm2, cL0, cL1, cL2, cL3, cL4, cL5, cL6, cL7, cL8, cL9, cL10, cL11, cL12, cL13, cL14, cL15, cL16, cL17, cL18, cL19, cL20, cL21, cL22, cL23, cL24, cL25, cL29, cL30, cL31, cL32, cL36, cL48, cL50, cL51, cL52, cL64, cL99, cL100, cL700, cL1000, cL9999, cL10000, cI_add, cI_sub, cI_mul, cI_neg, cI_lt, cI_le, cI_eq, ne_eq, ifp, ifn, bI_p, bI_n, aZ_0, aZ_1, aZ_b, e_gdt, e_ifT, e_ifF, not_true_eq_false, not_false_eq_true, e_gd, e1', e2']
              exact ok_someI ⟨rfl, H2⟩
            · simp (disch := omega) only [e_bi, e_bind, e_let, e_tr, e_tl, cLm1, cLm2, cL0, cL1, cL2, cL3, cL4, cL5, cL6, cL7, cL8, cL9, cL10, cL11, cL12, cL13, cL14, cL15, cL16, cL17, cL18, cL19, cL20, cL21, cL22, cL23, cL24, cL25, cL29, cL30, cL31, cL32, cL36, cL48, cL50, cL51, cL52, cL64, cL99, cL100, cL700, cL1000, cL9999, cL10000, cI_add, cI_sub, cI_mul, cI_neg, cI_lt, cI_le, cI_eq, ne_eq, ifp, ifn, bI_p, bI_n, aZ_0, aZ_1, aZ_b, e_gdt, e_ifT, e_ifF, not_true_eq_false, not_false_eq_true, e_gd]
              exact ok_someI ⟨rfl, H2⟩
        · obtain ⟨-, -, q3, -⟩ := CP.two hC1
          have q4 := q3 4 (by omega) (by omega)
          have e : f_X3_plantOneMore (cI a) D1 = some (cI (-1), D1) := by
            unfold f_X3_plantOneMore
            rw [callW_eq hp hC1, e_bi]
            simp (disch := omega) only [e_bi, e_bind, e_let, e_tr, e_tl, cLm1, cLm2, cL0, cL1, cL2, cL3, cL4, cL5, cL6, cL7, cL8, cL9, cL10, cL11, cL12, cL13, cL14, cL15, cL16, cL17, cL18, cL19, cL20, cL21, cL22, cL23, cL24, cL25, cL29, cL30, cL31, cL32, cL36, cL48, cL50, cL51, cL52, cL64, cL99, cL100, cL700, cL1000, cL9999, cL10000, cI_add, cI_sub, cI_mul, cI_neg, cI_lt, cI_le, cI_eq, ne_eq, ifp, ifn, bI_p, bI_n, aZ_0, aZ_1, aZ_b, e_gdt, e_ifT, e_ifF, not_true_eq_false, not_false_eq_true, e_gd, q4]
          rw [e]
          have w : gwN T a.toNat b = if b = 0 then -1 else 0 := by unfold gwN; rw [if_neg p]
          rw [w]
          refine ok_someI ?_
          rcases eb with rfl | rfl
          · simp (disch := omega) only [e_bi, e_bind, e_let, e_tr, e_tl, cLm1, cLm2, cL0, cL1, cL2, cL3, cL4, cL5, cL6, cL7, cL8, cL9, cL10, cL11, cL12, cL13, cL14, cL15, cL16, cL17, cL18, cL19, cL20, cL21, cL22, cL23, cL24, cL25, cL29, cL30, cL31, cL32, cL36, cL48, cL50, cL51, cL52, cL64, cL99, cL100, cL700, cL1000, cL9999, cL10000, cI_add, cI_sub, cI_mul, cI_neg, cI_lt, cI_le, cI_eq, ne_eq, ifp, ifn, bI_p, bI_n, aZ_0, aZ_1, aZ_b, e_gdt, e_ifT, e_ifF, not_true_eq_false, not_false_eq_true, e_gd]
            exact ok_someI ⟨rfl, H1⟩
          · simp (disch := omega) only [e_bi, e_bind, e_let, e_tr, e_tl, cLm1, cLm2, cL0, cL1, cL2, cL3, cL4, cL5, cL6, cL7, cL8, cL9, cL10, cL11, cL12, cL13, cL14, cL15, cL16, cL17, cL18, cL19, cL20, cL21, cL22, cL23, cL24, cL25, cL29, cL30, cL31, cL32, cL36, cL48, cL50, cL51, cL52, cL64, cL99, cL100, cL700, cL1000, cL9999, cL10000, cI_add, cI_sub, cI_mul, cI_neg, cI_lt, cI_le, cI_eq, ne_eq, ifp, ifn, bI_p, bI_n, aZ_0, aZ_1, aZ_b, e_gdt, e_ifT, e_ifF, not_true_eq_false, not_false_eq_true, e_gd]
            exact ok_someI ⟨rfl, H1⟩
      · have H0 := H.code (x := cI 0)
        have hM0 := H0.2.2.2.2.1
        have hMS := MS.of hM0 H0.2.2.2.2.2.1
        have fin : ∀ (D1 : aD) (y : Int32), y = cI (gwN T a.toNat b) → frQ T (pI D 88 2 (cI 0)) D1 → gI D1 88 30 = cI (T 0 4) → Ok (some (y, D1)) (fun r => wM (some (cI (gwN T a.toNat b))) (gI r.2 88 2) r.1 ∧ r.2.2 = D.2 ∧ lawP r.2) := by
          rintro D1 y rfl f h30
          refine ok_someI ⟨⟨(f.1 _ _ (by omega) (by omega) (by omega)).trans gI_eq, rfl⟩, f.2, T, K, L, B, H0.frP (fun k j a b => ?_)⟩
          by_cases e : k = 88 ∧ j = 30
          · obtain ⟨rfl, rfl⟩ := e
            exact h30.trans hMS.2.2.2.2.2.1.symm
          · exact f.1 k j (by unfold mScr at a; omega) e b
        have go : Ok (J_X12_grow_36 (cI a) (cI b) (-1) (-1) 0 (pI D 88 2 (cI 0))) (fun r => wM (some (cI (gwN T a.toNat b))) (gI r.2 88 2) r.1 ∧ r.2.2 = D.2 ∧ lawP r.2) := by
          by_cases p : T 0 4 < 12
          · have k := fun h => grow_mod (g := a.toNat) (b := cI b) (Q := fun r => wM (some (cI (gwN T a.toNat b))) (gI r.2 88 2) r.1 ∧ r.2.2 = D.2 ∧ lawP r.2) (TOKs.of hp hn) hMS (by omega) p h
            rw [ea] at k
            refine k (fun D1 h1 h2 => ?_)
            unfold J_X12_grow_155
            rcases eb with rfl | rfl
            · rw [if_neg (show ¬ (cI 0 ≠ 0) from fun z => z rfl)]
              exact fin _ _ (by unfold gwN; rw [if_pos p, if_pos rfl]) h2 h1.2.2.2.2.2.1
            · rw [if_pos (show cI 1 ≠ 0 by decide), cI_mx (by omega) (by omega)]
              exact fin _ _ (by unfold gwN; rw [if_pos p, if_neg (by omega)]) h2 h1.2.2.2.2.2.1
          · have L1 : aLp (fun s : Int32 × Int32 × Int32 × aD => B_X12_grow_36 (cI a) (cI b) s.1 s.2.1 s.2.2.1 s.2.2.2) (cI (-1), cI (-1), cI 0, pI D 88 2 (cI 0)) = some (cI (-1), cI (-1), pI D 88 2 (cI 0)) := by
              refine lp_cnt (body := fun s : Int32 × Int32 × Int32 × aD => B_X12_grow_36 (cI a) (cI b) s.1 s.2.1 s.2.2.1 s.2.2.2) 0 (by omega) (fun _ => (cI (-1), cI (-1), cI 0, pI D 88 2 (cI 0))) (cI (-1), cI (-1), pI D 88 2 (cI 0)) (fun i hi => absurd hi (by omega)) ?_
              show B_X12_grow_36 (cI a) (cI b) (cI (-1)) (cI (-1)) (cI 0) (pI D 88 2 (cI 0)) = _
              have m2 := hMS.1 2 (by omega) (by omega)
              have m30 := hMS.2.2.2.2.2.1
              unfold B_X12_grow_36
              by_cases s0 : T 0 2 ≤ 0
              · simp (disch := omega) only [e_bi, e_bind, e_let, e_tr, e_tl, cLm1, cLm2, cL0, cL1, cL2, cL3, cL4, cL5, cL6, cL7, cL8, cL9, cL10, cL11, cL12, cL13, cL14, cL15, cL16, cL17, cL18, cL19, cL20, cL21, cL22, cL23, cL24, cL25, cL29, cL30, cL31, cL32, cL36, cL48, cL50, cL51, cL52, cL64, cL99, cL100, cL700, cL1000, cL9999, cL10000, cI_add, cI_sub, cI_mul, cI_neg, cI_lt, cI_le, cI_eq, ne_eq, ifp, ifn, bI_p, bI_n, aZ_0, aZ_1, aZ_b, e_gdt, e_ifT, e_ifF, not_true_eq_false, not_false_eq_true, e_gd, cX0, cX1, cX2, cX3, cX4, cX5, cX6, cX7, cX8, cX9, cX10, cX11, cX12, cX13, cX14, cX15, cX16, cX17, cX18, cX19, cX20, cX21, cX22, cX23, cX24, cX25, cX29, cX30, cX31, cX32, cX36, Int.reduceToNat, cI_inT, m2]
              · simp (disch := omega) only [e_bi, e_bind, e_let, e_tr, e_tl, cLm1, cLm2, cL0, cL1, cL2, cL3, cL4, cL5, cL6, cL7, cL8, cL9, cL10, cL11, cL12, cL13, cL14, cL15, cL16, cL17, cL18, cL19, cL20, cL21, cL22, cL23, cL24, cL25, cL29, cL30, cL31, cL32, cL36, cL48, cL50, cL51, cL52, cL64, cL99, cL100, cL700, cL1000, cL9999, cL10000, cI_add, cI_sub, cI_mul, cI_neg, cI_lt, cI_le, cI_eq, ne_eq, ifp, ifn, bI_p, bI_n, aZ_0, aZ_1, aZ_b, e_gdt, e_ifT, e_ifF, not_true_eq_false, not_false_eq_true, e_gd, cX0, cX1, cX2, cX3, cX4, cX5, cX6, cX7, cX8, cX9, cX10, cX11, cX12, cX13, cX14, cX15, cX16, cX17, cX18, cX19, cX20, cX21, cX22, cX23, cX24, cX25, cX29, cX30, cX31, cX32, cX36, Int.reduceToNat, cI_inT, m2, m30]
            unfold J_X12_grow_36
            rw [show aLp (fun s : Int32 × Int32 × Int32 × aD => B_X12_grow_36 (cI a) (cI b) s.1 s.2.1 s.2.2.1 s.2.2.2) (-1, -1, 0, pI D 88 2 (cI 0)) = _ from L1, e_bind]
            unfold J_X12_grow_155
            dsimp only
            rcases eb with rfl | rfl
            · rw [if_neg (show ¬ (cI 0 ≠ 0) from fun z => z rfl)]
              exact fin _ _ (by unfold gwN; rw [if_neg p, if_pos rfl]) ⟨fun _ _ _ _ _ => rfl, rfl⟩ hMS.2.2.2.2.2.1
            · rw [if_pos (show cI 1 ≠ 0 by decide)]
              exact fin _ _ (by unfold gwN; rw [if_neg p, if_neg (show ¬ (1 : Int) = 0 by omega)]; exact cI_mx (e := -1) (by omega) (by omega)) ⟨fun _ _ _ _ _ => rfl, rfl⟩ hMS.2.2.2.2.2.1
        unfold f_X12_grow
        rcases eb with rfl | rfl
        · simp (disch := omega) only [e_bi, e_bind, e_let, e_tr, e_tl, cLm1, cLm2, cL0, cL1, cL2, cL3, cL4, cL5, cL6, cL7, cL8, cL9, cL10, cL11, cL12, cL13, cL14, cL15, cL16, cL17, cL18, cL19, cL20, cL21, cL22, cL23, cL24, cL25, cL29, cL30, cL31, cL32, cL36, cL48, cL50, cL51, cL52, cL64, cL99, cL100, cL700, cL1000, cL9999, cL10000, cI_add, cI_sub, cI_mul, cI_neg, cI_lt, cI_le, cI_eq, ne_eq, ifp, ifn, bI_p, bI_n, aZ_0, aZ_1, aZ_b, e_gdt, e_ifT, e_ifF, not_true_eq_false, not_false_eq_true, e_gd, isGarden_eq hp hM0]
          exact go
        · simp (disch := omega) only [e_bi, e_bind, e_let, e_tr, e_tl, cLm1, cLm2, cL0, cL1, cL2, cL3, cL4, cL5, cL6, cL7, cL8, cL9, cL10, cL11, cL12, cL13, cL14, cL15, cL16, cL17, cL18, cL19, cL20, cL21, cL22, cL23, cL24, cL25, cL29, cL30, cL31, cL32, cL36, cL48, cL50, cL51, cL52, cL64, cL99, cL100, cL700, cL1000, cL9999, cL10000, cI_add, cI_sub, cI_mul, cI_neg, cI_lt, cI_le, cI_eq, ne_eq, ifp, ifn, bI_p, bI_n, aZ_0, aZ_1, aZ_b, e_gdt, e_ifT, e_ifF, not_true_eq_false, not_false_eq_true, e_gd, isGarden_eq hp hM0]
          exact go
    · refine hp_step (fc := f_X11_grow (cI a) (cI b) D) (fm := fun D => f_X12_grow (cI a) (cI b) D) (P := lawP) (C := rel T K L B) none (fun D x h => h) ?_ (fun D H => ?_)
      · unfold f_X11_grow
        simp (disch := omega) only [e_bi, e_bind, e_let, e_tr, e_tl, cLm1, cLm2, cL0, cL1, cL2, cL3, cL4, cL5, cL6, cL7, cL8, cL9, cL10, cL11, cL12, cL13, cL14, cL15, cL16, cL17, cL18, cL19, cL20, cL21, cL22, cL23, cL24, cL25, cL29, cL30, cL31, cL32, cL36, cL48, cL50, cL51, cL52, cL64, cL99, cL100, cL700, cL1000, cL9999, cL10000, cI_add, cI_sub, cI_mul, cI_neg, cI_lt, cI_le, cI_eq, ne_eq, ifp, ifn, bI_p, bI_n, aZ_0, aZ_1, aZ_b, e_gdt, e_ifT, e_ifF, not_true_eq_false, not_false_eq_true, e_gd, (needGarden_eq hp hC ha1 ha2).1 x1, isBelow_eq, need_0]
        exact ok_someI ⟨rfl, H⟩
      · have H0 := H.code (x := cI 0)
        have hM0 := H0.2.2.2.2.1
        unfold f_X12_grow
        by_cases z : b < 0
        · simp (disch := omega) only [e_bi, e_bind, e_let, e_tr, e_tl, cLm1, cLm2, cL0, cL1, cL2, cL3, cL4, cL5, cL6, cL7, cL8, cL9, cL10, cL11, cL12, cL13, cL14, cL15, cL16, cL17, cL18, cL19, cL20, cL21, cL22, cL23, cL24, cL25, cL29, cL30, cL31, cL32, cL36, cL48, cL50, cL51, cL52, cL64, cL99, cL100, cL700, cL1000, cL9999, cL10000, cI_add, cI_sub, cI_mul, cI_neg, cI_lt, cI_le, cI_eq, ne_eq, ifp, ifn, bI_p, bI_n, aZ_0, aZ_1, aZ_b, e_gdt, e_ifT, e_ifF, not_true_eq_false, not_false_eq_true, e_gd, isGarden_eq hp hM0, fail_eq]
          exact ok_someI ⟨gI_eq, rfl, T, K, L, B, H0.code⟩
        · simp (disch := omega) only [e_bi, e_bind, e_let, e_tr, e_tl, cLm1, cLm2, cL0, cL1, cL2, cL3, cL4, cL5, cL6, cL7, cL8, cL9, cL10, cL11, cL12, cL13, cL14, cL15, cL16, cL17, cL18, cL19, cL20, cL21, cL22, cL23, cL24, cL25, cL29, cL30, cL31, cL32, cL36, cL48, cL50, cL51, cL52, cL64, cL99, cL100, cL700, cL1000, cL9999, cL10000, cI_add, cI_sub, cI_mul, cI_neg, cI_lt, cI_le, cI_eq, ne_eq, ifp, ifn, bI_p, bI_n, aZ_0, aZ_1, aZ_b, e_gdt, e_ifT, e_ifF, not_true_eq_false, not_false_eq_true, e_gd, isGarden_eq hp hM0, fail_eq]
          exact ok_someI ⟨gI_eq, rfl, T, K, L, B, H0.code⟩
  · refine hp_step (fc := f_X11_grow (cI a) (cI b) D) (fm := fun D => f_X12_grow (cI a) (cI b) D) (P := lawP) (C := rel T K L B) none (fun D x h => h) ?_ (fun D H => ?_)
    · unfold f_X11_grow
      simp (disch := omega) only [e_bi, e_bind, e_let, e_tr, e_tl, cLm1, cLm2, cL0, cL1, cL2, cL3, cL4, cL5, cL6, cL7, cL8, cL9, cL10, cL11, cL12, cL13, cL14, cL15, cL16, cL17, cL18, cL19, cL20, cL21, cL22, cL23, cL24, cL25, cL29, cL30, cL31, cL32, cL36, cL48, cL50, cL51, cL52, cL64, cL99, cL100, cL700, cL1000, cL9999, cL10000, cI_add, cI_sub, cI_mul, cI_neg, cI_lt, cI_le, cI_eq, ne_eq, ifp, ifn, bI_p, bI_n, aZ_0, aZ_1, aZ_b, e_gdt, e_ifT, e_ifF, not_true_eq_false, not_false_eq_true, e_gd, (needGarden_eq hp hC ha1 ha2).2 x1]
      exact ok_someI ⟨rfl, H⟩
    · have H0 := H.code (x := cI 0)
      have hM0 := H0.2.2.2.2.1
      unfold f_X12_grow
      simp (disch := omega) only [e_bi, e_bind, e_let, e_tr, e_tl, cLm1, cLm2, cL0, cL1, cL2, cL3, cL4, cL5, cL6, cL7, cL8, cL9, cL10, cL11, cL12, cL13, cL14, cL15, cL16, cL17, cL18, cL19, cL20, cL21, cL22, cL23, cL24, cL25, cL29, cL30, cL31, cL32, cL36, cL48, cL50, cL51, cL52, cL64, cL99, cL100, cL700, cL1000, cL9999, cL10000, cI_add, cI_sub, cI_mul, cI_neg, cI_lt, cI_le, cI_eq, ne_eq, ifp, ifn, bI_p, bI_n, aZ_0, aZ_1, aZ_b, e_gdt, e_ifT, e_ifF, not_true_eq_false, not_false_eq_true, e_gd, isGarden_eq hp hM0, fail_eq]
      exact ok_someI ⟨gI_eq, rfl, T, K, L, B, H0.code⟩
end GRM
