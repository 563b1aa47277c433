/-! weights won; odds -/
section WGT
def allN (T : aT) : Int := sgN 5 (fun w => T 0 (10 + w))
def wtN (T : aT) (g n : Nat) : Int := sgN n (fun w => if 0 < T 0 (10 + w) ∧ fbN (smG T w) (-1) (T 0 3).toNat = (g : Int) then T 0 (10 + w) else 0)
theorem all_b {T : aT} (h : ∀ w : Nat, w < 5 → 0 ≤ T 0 (10 + w) ∧ T 0 (10 + w) ≤ 99) : 0 ≤ allN T ∧ allN T ≤ 495 := by
  have a := sg_b (f := fun w => T 0 (10 + w)) (B := 99) 5 h
  unfold allN
  omega
theorem sg_le2 {f g : Nat → Int} {i : Nat} : ∀ n : Nat, i ≤ n → (∀ p : Nat, p < n → f p ≤ g p) → sgN n f - sgN i f ≤ sgN n g - sgN i g
  | 0, h, _ => by
    obtain rfl : i = 0 := by omega
    simp [sgN]
  | n + 1, h, k => by
    by_cases c : i = n + 1
    · subst c; omega
    · have a := sg_le2 (f := f) (g := g) (i := i) n (by omega) (fun p hp => k p (by omega))
      have b := k n (by omega)
      rw [sgN, sgN]
      omega
theorem wt_b {T : aT} {g n : Nat} (h : ∀ w : Nat, w < 5 → 0 ≤ T 0 (10 + w) ∧ T 0 (10 + w) ≤ 99) (hn : n ≤ 5) : 0 ≤ wtN T g n ∧ wtN T g n ≤ 495 := by
  have a := sg_b (f := fun w => if 0 < T 0 (10 + w) ∧ fbN (smG T w) (-1) (T 0 3).toNat = (g : Int) then T 0 (10 + w) else 0) (B := 99) n (fun w hw => by
    have := h w (by omega)
    show 0 ≤ (if 0 < T 0 (10 + w) ∧ fbN (smG T w) (-1) (T 0 3).toNat = (g : Int) then T 0 (10 + w) else 0) ∧ (if 0 < T 0 (10 + w) ∧ fbN (smG T w) (-1) (T 0 3).toNat = (g : Int) then T 0 (10 + w) else 0) ≤ 99
    split <;> omega)
  unfold wtN
  omega
theorem wt_left {T : aT} {g i : Nat} (h : ∀ w : Nat, w < 5 → 0 ≤ T 0 (10 + w) ∧ T 0 (10 + w) ≤ 99) (hi : i ≤ 5) : wtN T g 5 ≤ wtN T g i + (allN T - sgN i (fun w => T 0 (10 + w))) := by
  have a := sg_le2 (f := fun w => if 0 < T 0 (10 + w) ∧ fbN (smG T w) (-1) (T 0 3).toNat = (g : Int) then T 0 (10 + w) else 0) (g := fun w => T 0 (10 + w)) (i := i) 5 hi (fun w hw => by
    have := h w hw
    show (if 0 < T 0 (10 + w) ∧ fbN (smG T w) (-1) (T 0 3).toNat = (g : Int) then T 0 (10 + w) else 0) ≤ T 0 (10 + w)
    split <;> omega)
  unfold wtN allN
  omega
theorem left_b {T : aT} {i : Nat} (h : ∀ w : Nat, w < 5 → 0 ≤ T 0 (10 + w) ∧ T 0 (10 + w) ≤ 99) (hi : i ≤ 5) : 0 ≤ allN T - sgN i (fun w => T 0 (10 + w)) := by
  have a := sg_le2 (f := fun _ => 0) (g := fun w => T 0 (10 + w)) (i := i) 5 hi (fun w hw => (h w hw).1)
  rw [sg_0 5 (fun _ _ => rfl), sg_0 i (fun _ _ => rfl)] at a
  unfold allN
  omega
theorem callW_eq {D : aD} {T : aT} (hp : TOKp T) (hC : CP D 2 T) : f_X6_allWeights D = some (cI (allN T), D) := by
  obtain ⟨-, -, -, q4, -⟩ := CP.two hC
  have L : aLp (fun s : Int32 × Int32 × aD => B_X6_allWeights_4 s.1 s.2.1 s.2.2) (cI 0, cI 0, D) = some (cI (allN T), D) := by
    refine lp_cnt (body := fun s : Int32 × Int32 × aD => B_X6_allWeights_4 s.1 s.2.1 s.2.2) 5 (by omega) (fun i => (cI (sgN i (fun w => T 0 (10 + w))), cI (i : Int), D)) (cI (allN T), D) ?_ ?_
    · intro i hi
      have e : ((i : Int)).toNat = i := by omega
      have q := q4 i hi
      show B_X6_allWeights_4 (cI (sgN i (fun w => T 0 (10 + w)))) (cI (i : Int)) D = _
      unfold B_X6_allWeights_4
      simp (disch := omega) only [e_bi, e_bind, e_let, e_tr, e_tl, cLm1, cLm2, cL0, cL1, cL2, cL3, cL4, cL5, cL6, cL7, cL8, cL9, cL10, cL11, cL12, cL13, cL14, cL15, cL16, cL17, cL18, cL19, cL20, cL21, cL22, cL23, cL24, cL25, cL29, cL30, cL31, cL32, cL36, cL48, cL50, cL51, cL52, cL64, cL99, cL100, cL700, cL1000, cL9999, cL10000, cI_add, cI_sub, cI_mul, cI_neg, cI_lt, cI_le, cI_eq, ne_eq, ifp, ifn, bI_p, bI_n, aZ_0, aZ_1, aZ_b, e_gdt, e_ifT, e_ifF, not_true_eq_false, not_false_eq_true, e_gd, cI_inT, cI_nat, e, q]
      rfl
    · show B_X6_allWeights_4 (cI (sgN 5 (fun w => T 0 (10 + w)))) (cI ((5 : Nat) : Int)) D = _
      unfold B_X6_allWeights_4
      simp (disch := omega) only [e_bi, e_bind, e_let, e_tr, e_tl, cLm1, cLm2, cL0, cL1, cL2, cL3, cL4, cL5, cL6, cL7, cL8, cL9, cL10, cL11, cL12, cL13, cL14, cL15, cL16, cL17, cL18, cL19, cL20, cL21, cL22, cL23, cL24, cL25, cL29, cL30, cL31, cL32, cL36, cL48, cL50, cL51, cL52, cL64, cL99, cL100, cL700, cL1000, cL9999, cL10000, cI_add, cI_sub, cI_mul, cI_neg, cI_lt, cI_le, cI_eq, ne_eq, ifp, ifn, bI_p, bI_n, aZ_0, aZ_1, aZ_b, e_gdt, e_ifT, e_ifF, not_true_eq_false, not_false_eq_true, e_gd]
      rfl
  unfold f_X6_allWeights J_X6_allWeights_4
  have L' := L
  rw [show (cI 0 : Int32) = 0 from rfl] at L'
  rw [L', e_bind]
  rfl
theorem mallW_eq {D : aD} {T : aT} (hM : MS D T) : f_X12_allWeights D = some (cI (allN T), D) := by
  have L : aLp (fun s : Int32 × Int32 × aD => B_X12_allWeights_4 s.1 s.2.1 s.2.2) (cI 0, cI 0, D) = some (cI (allN T), D) := by
    refine lp_cnt (body := fun s : Int32 × Int32 × aD => B_X12_allWeights_4 s.1 s.2.1 s.2.2) 5 (by omega) (fun i => (cI (sgN i (fun w => T 0 (10 + w))), cI (i : Int), D)) (cI (allN T), D) ?_ ?_
    · intro i hi
      have e : (10 + (i : Int)).toNat = 10 + i := by omega
      have q := hM.1 (10 + i) (by omega) (by omega)
      show B_X12_allWeights_4 (cI (sgN i (fun w => T 0 (10 + w)))) (cI (i : Int)) D = _
      unfold B_X12_allWeights_4
      simp (disch := omega) only [e_bi, e_bind, e_let, e_tr, e_tl, cLm1, cLm2, cL0, cL1, cL2, cL3, cL4, cL5, cL6, cL7, cL8, cL9, cL10, cL11, cL12, cL13, cL14, cL15, cL16, cL17, cL18, cL19, cL20, cL21, cL22, cL23, cL24, cL25, cL29, cL30, cL31, cL32, cL36, cL48, cL50, cL51, cL52, cL64, cL99, cL100, cL700, cL1000, cL9999, cL10000, cI_add, cI_sub, cI_mul, cI_neg, cI_lt, cI_le, cI_eq, ne_eq, ifp, ifn, bI_p, bI_n, aZ_0, aZ_1, aZ_b, e_gdt, e_ifT, e_ifF, not_true_eq_false, not_false_eq_true, e_gd, cI_inT, cI_nat, e, q]
      rfl
    · show B_X12_allWeights_4 (cI (sgN 5 (fun w => T 0 (10 + w)))) (cI ((5 : Nat) : Int)) D = _
      unfold B_X12_allWeights_4
      simp (disch := omega) only [e_bi, e_bind, e_let, e_tr, e_tl, cLm1, cLm2, cL0, cL1, cL2, cL3, cL4, cL5, cL6, cL7, cL8, cL9, cL10, cL11, cL12, cL13, cL14, cL15, cL16, cL17, cL18, cL19, cL20, cL21, cL22, cL23, cL24, cL25, cL29, cL30, cL31, cL32, cL36, cL48, cL50, cL51, cL52, cL64, cL99, cL100, cL700, cL1000, cL9999, cL10000, cI_add, cI_sub, cI_mul, cI_neg, cI_lt, cI_le, cI_eq, ne_eq, ifp, ifn, bI_p, bI_n, aZ_0, aZ_1, aZ_b, e_gdt, e_ifT, e_ifF, not_true_eq_false, not_false_eq_true, e_gd]
      rfl
  unfold f_X12_allWeights J_X12_allWeights_4
  have L' := L
  rw [show (cI 0 : Int32) = 0 from rfl] at L'
  rw [L', e_bind]
  rfl
theorem CK.fr {D D' : aD} {T : aT} {W : Nat → Prop} (h : CK D T W) (e : ∀ k j : Nat, 60 ≤ k → k ≤ 65 → gI D' k j = gI D k j) : CK D' T W :=
  ⟨(e _ _ (by omega) (by omega)).trans h.1, fun p hp => ⟨(e _ _ (by omega) (by omega)).trans (h.2.1 p hp).1, (e _ _ (by omega) (by omega)).trans (h.2.1 p hp).2.1, (e _ _ (by omega) (by omega)).trans (h.2.1 p hp).2.2⟩, fun w i p z hi => ⟨(e _ _ (by omega) (by omega)).trans (h.2.2 w i p z hi).1, (e _ _ (by omega) (by omega)).trans (h.2.2 w i p z hi).2⟩⟩
/-- it stops early where the weights can't be above the floor -/
theorem won_ok {D : aD} {T T' : aT} {W : Nat → Prop} {g : Nat} {fl : Int} (hp : TOKp T) (hC : CP D 2 T) (hT : TOKs T') (hs : scn T T') (hK : CK D T' W) (hW : ∀ w : Nat, wOn T w → W w) (hg : (g : Int) < T 0 3) (h1 : -1 ≤ fl) (h2 : fl ≤ 1000) (h12 : T' 0 4 ≤ 12) :
    Ok (f_X1_weightsWon (cI (g : Int)) (cI fl) D) (fun r => (∃ v : Int, r.1 = cI v ∧ (fl < wtN T' g 5 → v = wtN T' g 5) ∧ (wtN T' g 5 ≤ fl → v ≤ fl) ∧ 0 ≤ v) ∧ ∀ k j : Nat, k ≠ 58 → k ≠ 59 → k ≠ 66 → gI r.2 k j = gI D k j) := by
  have hq := hp.1
  have hG : T' 0 3 = T 0 3 := hs.1 3 (by omega)
  have hww : ∀ w : Nat, T' 0 (10 + w) = T 0 (10 + w) := fun w => hs.1 _ (by omega)
  have hall : allN T' = allN T := sg_cg 5 (fun w _ => hww w)
  have ab := all_b hp.2.1
  unfold f_X1_weightsWon
  rw [callW_eq hp hC, e_bi]
  unfold J_X1_weightsWon_14
  refine ok_bindI (ok_lp (fun i t => (∃ v l, t = (cI v, cI l, cI (i : Int), t.2.2.2) ∧ v = wtN T' g i ∧ l = allN T' - sgN i (fun w => T' 0 (10 + w))) ∧ ∀ k j : Nat, k ≠ 58 → k ≠ 59 → k ≠ 66 → gI t.2.2.2 k j = gI D k j) 5 (by omega) ⟨⟨0, allN T, rfl, rfl, by rw [hall]; simp [sgN]⟩, fun _ _ _ _ _ => rfl⟩ ?_)
  rintro i ⟨x1, x2, x3, D1⟩ hi ⟨⟨v, l, hx, rfl, rfl⟩, h3⟩
  obtain ⟨rfl, rfl, rfl⟩ : x1 = cI _ ∧ x2 = cI _ ∧ x3 = cI _ := by
    have := hx
    simp only [Prod.mk.injEq] at this
    exact ⟨this.1, this.2.1, this.2.2.1⟩
  show Ok (B_X1_weightsWon_14 (cI (g : Int)) (cI fl) (cI (wtN T' g i)) (cI (allN T' - sgN i (fun w => T' 0 (10 + w)))) (cI (i : Int)) D1) _
  have hC1 : CP D1 2 T := hC.fr hp (fun k j hk => h3 _ j (by omega) (by omega) (by omega))
  have hK1 : CK D1 T' W := hK.fr (fun k j a b => h3 k j (by omega) (by omega) (by omega))
  obtain ⟨-, -, -, q4, -⟩ := CP.two hC1
  have b1 := wt_b (g := g) (n := i) hT.2.1 hi
  have b2 := sg_b (f := fun w => T' 0 (10 + w)) (B := 99) i (fun w hw => hT.2.1 w (by omega))
  have b3 := wt_left (g := g) (i := i) hT.2.1 hi
  have b4 := left_b (i := i) hT.2.1 hi
  have e : ((i : Int)).toNat = i := by omega
  unfold B_X1_weightsWon_14
  by_cases c : i < 5
  · have q := q4 i c
    have hwi := hp.2.1 i c
    by_cases c1 : wtN T' g i + (allN T' - sgN i (fun w => T' 0 (10 + w))) ≤ fl
    · simp (disch := omega) only [e_bi, e_bind, e_let, e_tr, e_tl, cLm1, cLm2, cL0, cL1, cL2, cL3, cL4, cL5, cL6, cL7, cL8, cL9, cL10, cL11, cL12, cL13, cL14, cL15, cL16, cL17, cL18, cL19, cL20, cL21, cL22, cL23, cL24, cL25, cL29, cL30, cL31, cL32, cL36, cL48, cL50, cL51, cL52, cL64, cL99, cL100, cL700, cL1000, cL9999, cL10000, cI_add, cI_sub, cI_mul, cI_neg, cI_lt, cI_le, cI_eq, ne_eq, ifp, ifn, bI_p, bI_n, aZ_0, aZ_1, aZ_b, e_gdt, e_ifT, e_ifF, not_true_eq_false, not_false_eq_true, e_gd]
      exact ok_someI (Or.inr ⟨_, rfl, ok_someI ⟨⟨_, rfl, fun h => by omega, fun h => by omega, b1.1⟩, h3⟩⟩)
    · by_cases c2 : 0 < T 0 (10 + i)
      · simp (disch := omega) only [e_bi, e_bind, e_let, e_tr, e_tl, cLm1, cLm2, cL0, cL1, cL2, cL3, cL4, cL5, cL6, cL7, cL8, cL9, cL10, cL11, cL12, cL13, cL14, cL15, cL16, cL17, cL18, cL19, cL20, cL21, cL22, cL23, cL24, cL25, cL29, cL30, cL31, cL32, cL36, cL48, cL50, cL51, cL52, cL64, cL99, cL100, cL700, cL1000, cL9999, cL10000, cI_add, cI_sub, cI_mul, cI_neg, cI_lt, cI_le, cI_eq, ne_eq, ifp, ifn, bI_p, bI_n, aZ_0, aZ_1, aZ_b, e_gdt, e_ifT, e_ifF, not_true_eq_false, not_false_eq_true, e_gd, cI_inT, cI_nat, e, q]
        refine ok_bindI ((addUp_ok hp hC1 hT hs hK1 (hW i (Or.inr c2)) c h12).mono fun D2 k => ?_)
        have hC2 : CP D2 2 T := hC1.fr hp (fun k' j hk => k.2 _ j (by omega) (by omega) (by omega))
        have ef := first_eq hp hC2 k.1 (smG_u hT) (by omega)
        rw [ef, e_bi, ← hG]
        have fb := fb_b (U := smG T' i) (b := -1) (T' 0 3).toNat
        have st : wtN T' g (i + 1) = wtN T' g i + if 0 < T' 0 (10 + i) ∧ fbN (smG T' i) (-1) (T' 0 3).toNat = (g : Int) then T' 0 (10 + i) else 0 := rfl
        have sl : allN T' - sgN (i + 1) (fun w => T' 0 (10 + w)) = allN T' - sgN i (fun w => T' 0 (10 + w)) - T 0 (10 + i) := by
          rw [sgN]
          have := hww i
          omega
        by_cases c3 : fbN (smG T' i) (-1) (T' 0 3).toNat = (g : Int)
        · rw [if_pos ⟨by rw [hww]; exact c2, c3⟩, hww] at st
          simp (disch := omega) only [e_bi, e_bind, e_let, e_tr, e_tl, cLm1, cLm2, cL0, cL1, cL2, cL3, cL4, cL5, cL6, cL7, cL8, cL9, cL10, cL11, cL12, cL13, cL14, cL15, cL16, cL17, cL18, cL19, cL20, cL21, cL22, cL23, cL24, cL25, cL29, cL30, cL31, cL32, cL36, cL48, cL50, cL51, cL52, cL64, cL99, cL100, cL700, cL1000, cL9999, cL10000, cI_add, cI_sub, cI_mul, cI_neg, cI_lt, cI_le, cI_eq, ne_eq, ifp, ifn, bI_p, bI_n, aZ_0, aZ_1, aZ_b, e_gdt, e_ifT, e_ifF, not_true_eq_false, not_false_eq_true, e_gd]
          exact ok_someI (Or.inl ⟨_, rfl, c, ⟨_, _, rfl, st.symm, sl.symm⟩, fun k' j a b d => (k.2 k' j a b d).trans (h3 k' j a b d)⟩)
        · rw [if_neg (fun z => c3 z.2)] at st
          simp (disch := omega) only [e_bi, e_bind, e_let, e_tr, e_tl, cLm1, cLm2, cL0, cL1, cL2, cL3, cL4, cL5, cL6, cL7, cL8, cL9, cL10, cL11, cL12, cL13, cL14, cL15, cL16, cL17, cL18, cL19, cL20, cL21, cL22, cL23, cL24, cL25, cL29, cL30, cL31, cL32, cL36, cL48, cL50, cL51, cL52, cL64, cL99, cL100, cL700, cL1000, cL9999, cL10000, cI_add, cI_sub, cI_mul, cI_neg, cI_lt, cI_le, cI_eq, ne_eq, ifp, ifn, bI_p, bI_n, aZ_0, aZ_1, aZ_b, e_gdt, e_ifT, e_ifF, not_true_eq_false, not_false_eq_true, e_gd]
          exact ok_someI (Or.inl ⟨_, rfl, c, ⟨_, _, rfl, st.symm, sl.symm⟩, fun k' j a b d => (k.2 k' j a b d).trans (h3 k' j a b d)⟩)
      · have st : wtN T' g (i + 1) = wtN T' g i + if 0 < T' 0 (10 + i) ∧ fbN (smG T' i) (-1) (T' 0 3).toNat = (g : Int) then T' 0 (10 + i) else 0 := rfl
        have sl : allN T' - sgN (i + 1) (fun w => T' 0 (10 + w)) = allN T' - sgN i (fun w => T' 0 (10 + w)) - T 0 (10 + i) := by
          rw [sgN]
          have := hww i
          omega
        rw [if_neg (fun z => c2 (by rw [← hww]; exact z.1)), Int.add_zero] at st
        simp (disch := omega) only [e_bi, e_bind, e_let, e_tr, e_tl, cLm1, cLm2, cL0, cL1, cL2, cL3, cL4, cL5, cL6, cL7, cL8, cL9, cL10, cL11, cL12, cL13, cL14, cL15, cL16, cL17, cL18, cL19, cL20, cL21, cL22, cL23, cL24, cL25, cL29, cL30, cL31, cL32, cL36, cL48, cL50, cL51, cL52, cL64, cL99, cL100, cL700, cL1000, cL9999, cL10000, cI_add, cI_sub, cI_mul, cI_neg, cI_lt, cI_le, cI_eq, ne_eq, ifp, ifn, bI_p, bI_n, aZ_0, aZ_1, aZ_b, e_gdt, e_ifT, e_ifF, not_true_eq_false, not_false_eq_true, e_gd, cI_inT, cI_nat, e, q]
        exact ok_someI (Or.inl ⟨_, rfl, c, ⟨_, _, rfl, st.symm, sl.symm⟩, h3⟩)
  · obtain rfl : i = 5 := by omega
    simp (disch := omega) only [e_bi, e_bind, e_let, e_tr, e_tl, cLm1, cLm2, cL0, cL1, cL2, cL3, cL4, cL5, cL6, cL7, cL8, cL9, cL10, cL11, cL12, cL13, cL14, cL15, cL16, cL17, cL18, cL19, cL20, cL21, cL22, cL23, cL24, cL25, cL29, cL30, cL31, cL32, cL36, cL48, cL50, cL51, cL52, cL64, cL99, cL100, cL700, cL1000, cL9999, cL10000, cI_add, cI_sub, cI_mul, cI_neg, cI_lt, cI_le, cI_eq, ne_eq, ifp, ifn, bI_p, bI_n, aZ_0, aZ_1, aZ_b, e_gdt, e_ifT, e_ifF, not_true_eq_false, not_false_eq_true, e_gd]
    exact ok_someI (Or.inr ⟨_, rfl, ok_someI ⟨⟨_, rfl, fun h => rfl, fun h => h, b1.1⟩, h3⟩⟩)
theorem mwon_ok {D : aD} {T : aT} {g : Nat} (hp : TOKs T) (hM : MS D T) (hg : (g : Int) < T 0 3) :
    Ok (f_X12_weightsOf (cI (g : Int)) D) (fun r => r.1 = cI (wtN T g 5) ∧ (∀ k j : Nat, ¬ (108 ≤ k ∧ k ≤ 112) → gI r.2 k j = gI D k j) ∧ r.2.2 = D.2) := by
  have hq := hp.1
  unfold f_X12_weightsOf J_X12_weightsOf_4
  refine ok_bindI (ok_lp (fun i t => t = (cI (wtN T g i), cI (i : Int), t.2.2) ∧ (∀ k j : Nat, ¬ (108 ≤ k ∧ k ≤ 112) → gI t.2.2 k j = gI D k j) ∧ t.2.2.2 = D.2) 5 (by omega) ⟨rfl, fun _ _ _ => rfl, rfl⟩ ?_)
  rintro i ⟨x1, x2, D1⟩ hi ⟨hx, h3, h4⟩
  obtain ⟨rfl, rfl⟩ : x1 = cI _ ∧ x2 = cI _ := by
    have := hx
    simp only [Prod.mk.injEq] at this
    exact ⟨this.1, this.2.1⟩
  show Ok (B_X12_weightsOf_4 (cI (g : Int)) (cI (wtN T g i)) (cI (i : Int)) D1) _
  have hM1 : MS D1 T := hM.fr (fun k j a => h3 k j (by omega)) (fun j a b => h3 _ j (by omega))
  unfold B_X12_weightsOf_4
  by_cases c : i < 5
  · have q := hM1.1 (10 + i) (by omega) (by omega)
    have hwi := hp.2.1 i c
    have e : (10 + (i : Int)).toNat = 10 + i := by omega
    have st : wtN T g (i + 1) = wtN T g i + if 0 < T 0 (10 + i) ∧ fbN (smG T i) (-1) (T 0 3).toNat = (g : Int) then T 0 (10 + i) else 0 := rfl
    by_cases c2 : 0 < T 0 (10 + i)
    · simp (disch := omega) only [e_bi, e_bind, e_let, e_tr, e_tl, cLm1, cLm2, cL0, cL1, cL2, cL3, cL4, cL5, cL6, cL7, cL8, cL9, cL10, cL11, cL12, cL13, cL14, cL15, cL16, cL17, cL18, cL19, cL20, cL21, cL22, cL23, cL24, cL25, cL29, cL30, cL31, cL32, cL36, cL48, cL50, cL51, cL52, cL64, cL99, cL100, cL700, cL1000, cL9999, cL10000, cI_add, cI_sub, cI_mul, cI_neg, cI_lt, cI_le, cI_eq, ne_eq, ifp, ifn, bI_p, bI_n, aZ_0, aZ_1, aZ_b, e_gdt, e_ifT, e_ifF, not_true_eq_false, not_false_eq_true, e_gd, cI_inT, cI_nat, e, q]
      refine ok_biI ((winnerBy_ok hp hM1 c).mono fun r k => ?_)
      obtain ⟨y, D2⟩ := r
      obtain ⟨k1, k2, k3, k4⟩ := k
      obtain rfl : y = _ := k1
      have q2 : gI D2 91 (10 + i) = cI (T 0 (10 + i)) := (k3 _ _ (by omega)).trans q
      have fb := fb_b (U := smG T i) (b := -1) (T 0 3).toNat
      by_cases c3 : fbN (smG T i) (-1) (T 0 3).toNat = (g : Int)
      · rw [if_pos ⟨c2, c3⟩] at st
        simp (disch := omega) only [e_bi, e_bind, e_let, e_tr, e_tl, cLm1, cLm2, cL0, cL1, cL2, cL3, cL4, cL5, cL6, cL7, cL8, cL9, cL10, cL11, cL12, cL13, cL14, cL15, cL16, cL17, cL18, cL19, cL20, cL21, cL22, cL23, cL24, cL25, cL29, cL30, cL31, cL32, cL36, cL48, cL50, cL51, cL52, cL64, cL99, cL100, cL700, cL1000, cL9999, cL10000, cI_add, cI_sub, cI_mul, cI_neg, cI_lt, cI_le, cI_eq, ne_eq, ifp, ifn, bI_p, bI_n, aZ_0, aZ_1, aZ_b, e_gdt, e_ifT, e_ifF, not_true_eq_false, not_false_eq_true, e_gd, cI_inT, cI_nat, e, q2]
        refine ok_someI (Or.inl ⟨_, rfl, c, ?_, fun k j a => (k3 k j a).trans (h3 k j a), k4.trans h4⟩)
        rw [st]
        rfl
      · rw [if_neg (fun z => c3 z.2)] at st
        simp (disch := omega) only [e_bi, e_bind, e_let, e_tr, e_tl, cLm1, cLm2, cL0, cL1, cL2, cL3, cL4, cL5, cL6, cL7, cL8, cL9, cL10, cL11, cL12, cL13, cL14, cL15, cL16, cL17, cL18, cL19, cL20, cL21, cL22, cL23, cL24, cL25, cL29, cL30, cL31, cL32, cL36, cL48, cL50, cL51, cL52, cL64, cL99, cL100, cL700, cL1000, cL9999, cL10000, cI_add, cI_sub, cI_mul, cI_neg, cI_lt, cI_le, cI_eq, ne_eq, ifp, ifn, bI_p, bI_n, aZ_0, aZ_1, aZ_b, e_gdt, e_ifT, e_ifF, not_true_eq_false, not_false_eq_true, e_gd]
        refine ok_someI (Or.inl ⟨_, rfl, c, ?_, fun k j a => (k3 k j a).trans (h3 k j a), k4.trans h4⟩)
        rw [st]
        rfl
    · rw [if_neg (fun z => c2 z.1)] at st
      simp (disch := omega) only [e_bi, e_bind, e_let, e_tr, e_tl, cLm1, cLm2, cL0, cL1, cL2, cL3, cL4, cL5, cL6, cL7, cL8, cL9, cL10, cL11, cL12, cL13, cL14, cL15, cL16, cL17, cL18, cL19, cL20, cL21, cL22, cL23, cL24, cL25, cL29, cL30, cL31, cL32, cL36, cL48, cL50, cL51, cL52, cL64, cL99, cL100, cL700, cL1000, cL9999, cL10000, cI_add, cI_sub, cI_mul, cI_neg, cI_lt, cI_le, cI_eq, ne_eq, ifp, ifn, bI_p, bI_n, aZ_0, aZ_1, aZ_b, e_gdt, e_ifT, e_ifF, not_true_eq_false, not_false_eq_true, e_gd, cI_inT, cI_nat, e, q]
      refine ok_someI (Or.inl ⟨_, rfl, c, ?_, h3, h4⟩)
      rw [st]
      rfl
  · obtain rfl : i = 5 := by omega
    simp (disch := omega) only [e_bi, e_bind, e_let, e_tr, e_tl, cLm1, cLm2, cL0, cL1, cL2, cL3, cL4, cL5, cL6, cL7, cL8, cL9, cL10, cL11, cL12, cL13, cL14, cL15, cL16, cL17, cL18, cL19, cL20, cL21, cL22, cL23, cL24, cL25, cL29, cL30, cL31, cL32, cL36, cL48, cL50, cL51, cL52, cL64, cL99, cL100, cL700, cL1000, cL9999, cL10000, cI_add, cI_sub, cI_mul, cI_neg, cI_lt, cI_le, cI_eq, ne_eq, ifp, ifn, bI_p, bI_n, aZ_0, aZ_1, aZ_b, e_gdt, e_ifT, e_ifF, not_true_eq_false, not_false_eq_true, e_gd]
    exact ok_someI (Or.inr ⟨_, rfl, ok_someI ⟨rfl, h3, h4⟩⟩)
theorem cgcd_eq {D : aD} {a b : Nat} (ha : a ≤ 495) (hb : b ≤ 495) : f_X11_greatestDivisor (cI (a : Int)) (cI (b : Int)) D = some (cI ((Nat.gcd a b : Nat) : Int), D) := by
  refine ok_eq ?_
  unfold f_X11_greatestDivisor J_X11_greatestDivisor_7
  refine ok_bindI (ok_lp (fun i t => ∃ x y : Nat, t = (cI (x : Int), cI (y : Int), cI (i : Int), D) ∧ Nat.gcd x y = Nat.gcd a b ∧ x ≤ 495 ∧ y + i ≤ 495) 496 (by omega) ⟨a, b, rfl, rfl, ha, by omega⟩ ?_)
  rintro i t hi ⟨x, y, rfl, h1, h2, h3⟩
  show Ok (B_X11_greatestDivisor_7 (cI (x : Int)) (cI (y : Int)) (cI (i : Int)) D) _
  unfold B_X11_greatestDivisor_7
  by_cases c : y = 0
  · subst c
    simp (disch := omega) only [e_bi, e_bind, e_let, e_tr, e_tl, cLm1, cLm2, cL0, cL1, cL2, cL3, cL4, cL5, cL6, cL7, cL8, cL9, cL10, cL11, cL12, cL13, cL14, cL15, cL16, cL17, cL18, cL19, cL20, cL21, cL22, cL23, cL24, cL25, cL29, cL30, cL31, cL32, cL36, cL48, cL50, cL51, cL52, cL64, cL99, cL100, cL700, cL1000, cL9999, cL10000, cI_add, cI_sub, cI_mul, cI_neg, cI_lt, cI_le, cI_eq, ne_eq, ifp, ifn, bI_p, bI_n, aZ_0, aZ_1, aZ_b, e_gdt, e_ifT, e_ifF, not_true_eq_false, not_false_eq_true, e_gd, cL9999]
    refine ok_someI (Or.inr ⟨_, rfl, ok_someI ?_⟩)
    rw [Nat.gcd_zero_right] at h1
    rw [h1]
  · have m := Nat.mod_lt x (show 0 < y by omega)
    have e : ((x : Int) % (y : Int)) = ((x % y : Nat) : Int) := (Int.natCast_emod x y).symm
    simp (disch := omega) only [e_bi, e_bind, e_let, e_tr, e_tl, cLm1, cLm2, cL0, cL1, cL2, cL3, cL4, cL5, cL6, cL7, cL8, cL9, cL10, cL11, cL12, cL13, cL14, cL15, cL16, cL17, cL18, cL19, cL20, cL21, cL22, cL23, cL24, cL25, cL29, cL30, cL31, cL32, cL36, cL48, cL50, cL51, cL52, cL64, cL99, cL100, cL700, cL1000, cL9999, cL10000, cI_add, cI_sub, cI_mul, cI_neg, cI_lt, cI_le, cI_eq, ne_eq, ifp, ifn, bI_p, bI_n, aZ_0, aZ_1, aZ_b, e_gdt, e_ifT, e_ifF, not_true_eq_false, not_false_eq_true, e_gd, cL9999, aNz_c, cI_div, rem_e]
    refine ok_someI (Or.inl ⟨_, rfl, by omega, y, x % y, ?_, ?_, by omega, by omega⟩)
    · rw [e]; rfl
    · rw [← h1, Nat.gcd_comm x y, Nat.gcd_rec y x, Nat.gcd_comm]
theorem mgcd_eq {D : aD} {a b : Nat} (ha : a ≤ 495) (hb : b ≤ 495) : f_X12_common (cI (a : Int)) (cI (b : Int)) D = some (cI ((Nat.gcd a b : Nat) : Int), D) := by
  refine ok_eq ?_
  unfold f_X12_common J_X12_common_4
  refine ok_bindI (ok_lp (fun i t => ∃ x y : Nat, t = (cI (x : Int), cI (y : Int), D) ∧ Nat.gcd x y = Nat.gcd a b ∧ x ≤ 495 ∧ y + i ≤ 495) 496 (by omega) ⟨a, b, rfl, rfl, ha, by omega⟩ ?_)
  rintro i t hi ⟨x, y, rfl, h1, h2, h3⟩
  show Ok (B_X12_common_4 (cI (x : Int)) (cI (y : Int)) D) _
  unfold B_X12_common_4
  by_cases c : y = 0
  · subst c
    simp (disch := omega) only [e_bi, e_bind, e_let, e_tr, e_tl, cLm1, cLm2, cL0, cL1, cL2, cL3, cL4, cL5, cL6, cL7, cL8, cL9, cL10, cL11, cL12, cL13, cL14, cL15, cL16, cL17, cL18, cL19, cL20, cL21, cL22, cL23, cL24, cL25, cL29, cL30, cL31, cL32, cL36, cL48, cL50, cL51, cL52, cL64, cL99, cL100, cL700, cL1000, cL9999, cL10000, cI_add, cI_sub, cI_mul, cI_neg, cI_lt, cI_le, cI_eq, ne_eq, ifp, ifn, bI_p, bI_n, aZ_0, aZ_1, aZ_b, e_gdt, e_ifT, e_ifF, not_true_eq_false, not_false_eq_true, e_gd]
    refine ok_someI (Or.inr ⟨_, rfl, ok_someI ?_⟩)
    rw [Nat.gcd_zero_right] at h1
    rw [h1]
  · have m := Nat.mod_lt x (show 0 < y by omega)
    have e : ((x : Int) % (y : Int)) = ((x % y : Nat) : Int) := (Int.natCast_emod x y).symm
    simp (disch := omega) only [e_bi, e_bind, e_let, e_tr, e_tl, cLm1, cLm2, cL0, cL1, cL2, cL3, cL4, cL5, cL6, cL7, cL8, cL9, cL10, cL11, cL12, cL13, cL14, cL15, cL16, cL17, cL18, cL19, cL20, cL21, cL22, cL23, cL24, cL25, cL29, cL30, cL31, cL32, cL36, cL48, cL50, cL51, cL52, cL64, cL99, cL100, cL700, cL1000, cL9999, cL10000, cI_add, cI_sub, cI_mul, cI_neg, cI_lt, cI_le, cI_eq, ne_eq, ifp, ifn, bI_p, bI_n, aZ_0, aZ_1, aZ_b, e_gdt, e_ifT, e_ifF, not_true_eq_false, not_false_eq_true, e_gd, aNz_c, cI_div, rem_e]
    refine ok_someI (Or.inl ⟨_, rfl, by omega, y, x % y, ?_, ?_, by omega, by omega⟩)
    · rw [e]
    · rw [← h1, Nat.gcd_comm x y, Nat.gcd_rec y x, Nat.gcd_comm]
theorem odds_cls {D : aD} {T K : aT} {L : Int} {B : Nat → Int} (H : rel T K L B D) {β : Type} {kk : aD → Option β} {Q : β → Prop} (k : ∀ D' : aD, CP D' 2 T → CNow D' T → CK D' T (wOn T) → rel T K L B D' → Ok (kk D') Q) : Ok ((f_X1_prepareAll D).bind kk) Q := by
  have ⟨hp, hn, hC, hN, _⟩ := H
  refine ok_bindI ((prepareAll_ok hp hn hC hN).mono fun D1 q1 => ?_)
  obtain ⟨hC1, hN1⟩ := cF hp hC hN (D' := D1) (fun k j hk => q1.2 k j (by omega))
  exact k D1 hC1 hN1 q1.1 (H.cls (fun k j a => q1.2 k j (by omega)))
def odN (T : aT) (a : Nat) (b : Int) : Int := if allN T = 0 then b else if b = 0 then wtN T a 5 / ((Nat.gcd (wtN T a 5).toNat (allN T).toNat : Nat) : Int) else allN T / ((Nat.gcd (wtN T a 5).toNat (allN T).toNat : Nat) : Int)
theorem wt_0 {T : aT} {g : Nat} (h : ∀ w : Nat, w < 5 → 0 ≤ T 0 (10 + w) ∧ T 0 (10 + w) ≤ 99) (h0 : allN T = 0) : wtN T g 5 = 0 := by
  have a := wt_b (g := g) (n := 5) h (by omega)
  have b := wt_left (g := g) (i := 0) h (by omega)
  have e : wtN T g 0 = 0 := rfl
  have e2 : sgN 0 (fun w => T 0 (10 + w)) = 0 := rfl
  omega
theorem step_15 {D : aD} {v1 v2 v3 v4 v5 : Int32} (h : lawP D) : Ok2 (f_law_15 v1 v2 v3 v4 v5 D) (fun r D => r = 1 ∧ lawP D) := by
  obtain ⟨T, K, L, B, H⟩ := h
  have ⟨hp, hn, hC, hN, hM, hR, _⟩ := H
  have hq := hp.1
  obtain ⟨a, rfl, ha1, ha2⟩ := cI_of v1
  obtain ⟨b, rfl, hb1, hb2⟩ := cI_of v2
  unfold f_law_15 f_L_odds
  by_cases x1 : 0 ≤ a ∧ a < T 0 3
  · by_cases x3 : 0 ≤ b ∧ b < 2
    · have ea : ((a.toNat : Nat) : Int) = a := by omega
      have eb : b = 0 ∨ b = 1 := by omega
      have ab := all_b hp.2.1
      have wb := wt_b (g := a.toNat) (n := 5) hp.2.1 (by omega)
      have ew : (((wtN T a.toNat 5).toNat : Nat) : Int) = wtN T a.toNat 5 := by omega
      have el : (((allN T).toNat : Nat) : Int) = allN T := by omega
      have g0 : allN T ≠ 0 → 0 < Nat.gcd (wtN T a.toNat 5).toNat (allN T).toNat := fun h => Nat.gcd_pos_of_pos_right _ (by omega)
      have gl : allN T ≠ 0 → Nat.gcd (wtN T a.toNat 5).toNat (allN T).toNat ≤ 495 := fun h => Nat.le_trans (Nat.gcd_le_right _ (by omega)) (by omega)
      refine hp_step (fc := f_X11_odds (cI a) (cI b) D) (fm := fun D => f_X12_odds (cI a) (cI b) D) (P := lawP) (C := rel T K L B) (some (cI (odN T a.toNat b))) (fun D x h => h) ?_ (fun D H => ?_)
      · unfold f_X11_odds
        simp (disch := omega) only [e_bi, e_bind, e_let, e_tr, e_tl, cLm1, cLm2, cL0, cL1, cL2, cL3, cL4, cL5, cL6, cL7, cL8, cL9, cL10, cL11, cL12, cL13, cL14, cL15, cL16, cL17, cL18, cL19, cL20, cL21, cL22, cL23, cL24, cL25, cL29, cL30, cL31, cL32, cL36, cL48, cL50, cL51, cL52, cL64, cL99, cL100, cL700, cL1000, cL9999, cL10000, cI_add, cI_sub, cI_mul, cI_neg, cI_lt, cI_le, cI_eq, ne_eq, ifp, ifn, bI_p, bI_n, aZ_0, aZ_1, aZ_b, e_gdt, e_ifT, e_ifF, not_true_eq_false, not_false_eq_true, e_gd, (needGarden_eq hp hC ha1 ha2).1 x1, isBelow_eq, need_1]
        refine odds_cls H (fun D1 hC1 hN1 hK1 H1 => ok_biI ?_)
        have k := won_ok (g := a.toNat) (fl := -1) hp hC1 (TOKs.of hp hn) scn.rf hK1 (fun w h => h) (by omega) (by omega) (by omega) (by have := hp.1; omega)
        rw [ea] at k
        refine k.mono fun r q => ?_
        obtain ⟨y, D2⟩ := r
        obtain ⟨⟨v, q1, q2, -, -⟩, q3⟩ := q
        have q3' : ∀ k j : Nat, k ≠ 58 → k ≠ 59 → k ≠ 66 → gI D2 k j = gI D1 k j := q3
        obtain rfl : y = cI v := q1
        obtain rfl := q2 (by omega)
        have hC2 : CP D2 2 T := hC1.fr hp (fun k j hk => q3' _ j (by omega) (by omega) (by omega))
        have H2 : rel T K L B D2 := H1.cls (fun k j a => q3' k j (by omega) (by omega) (by omega))
        have eg := cgcd_eq (D := D2) (a := (wtN T a.toNat 5).toNat) (b := (allN T).toNat) (by omega) (by omega)
        rw [ew, el] at eg
        by_cases z : allN T = 0
        · have w0 := wt_0 (g := a.toNat) hp.2.1 z
          rw [w0, z] at eg
          simp (disch := omega) only [callW_eq hp hC2, e_bi, w0, z, eg]
          rw [show ((Nat.gcd (0 : Int).toNat (0 : Int).toNat : Nat) : Int) = 0 from rfl]
          have o : odN T a.toNat b = b := by unfold odN; rw [if_pos z]
          rcases eb with rfl | rfl
          · simp (disch := omega) only [e_bi, e_bind, e_let, e_tr, e_tl, cLm1, cLm2, cL0, cL1, cL2, cL3, cL4, cL5, cL6, cL7, cL8, cL9, cL10, cL11, cL12, cL13, cL14, cL15, cL16, cL17, cL18, cL19, cL20, cL21, cL22, cL23, cL24, cL25, cL29, cL30, cL31, cL32, cL36, cL48, cL50, cL51, cL52, cL64, cL99, cL100, cL700, cL1000, cL9999, cL10000, cI_add, cI_sub, cI_mul, cI_neg, cI_lt, cI_le, cI_eq, ne_eq, ifp, ifn, bI_p, bI_n, aZ_0, aZ_1, aZ_b, e_gdt, e_ifT, e_ifF, not_true_eq_false, not_false_eq_true, e_gd, o]
            exact ok_someI ⟨rfl, H2⟩
          · simp (disch := omega) only [e_bi, e_bind, e_let, e_tr, e_tl, cLm1, cLm2, cL0, cL1, cL2, cL3, cL4, cL5, cL6, cL7, cL8, cL9, cL10, cL11, cL12, cL13, cL14, cL15, cL16, cL17, cL18, cL19, cL20, cL21, cL22, cL23, cL24, cL25, cL29, cL30, cL31, cL32, cL36, cL48, cL50, cL51, cL52, cL64, cL99, cL100, cL700, cL1000, cL9999, cL10000, cI_add, cI_sub, cI_mul, cI_neg, cI_lt, cI_le, cI_eq, ne_eq, ifp, ifn, bI_p, bI_n, aZ_0, aZ_1, aZ_b, e_gdt, e_ifT, e_ifF, not_true_eq_false, not_false_eq_true, e_gd, o]
            exact ok_someI ⟨rfl, H2⟩
        · have g1 := g0 z
          have g2 := gl z
          simp (disch := omega) only [callW_eq hp hC2, e_bi, eg]
          generalize hgg : Nat.gcd (wtN T a.toNat 5).toNat (allN T).toNat = gg at g1 g2
          have o : odN T a.toNat b = if b = 0 then wtN T a.toNat 5 / (gg : Int) else allN T / (gg : Int) := by unfold odN; rw [if_neg z, hgg]
          rcases eb with rfl | rfl
          · simp (disch := omega) only [e_bi, e_bind, e_let, e_tr, e_tl, cLm1, cLm2, cL0, cL1, cL2, cL3, cL4, cL5, cL6, cL7, cL8, cL9, cL10, cL11, cL12, cL13, cL14, cL15, cL16, cL17, cL18, cL19, cL20, cL21, cL22, cL23, cL24, cL25, cL29, cL30, cL31, cL32, cL36, cL48, cL50, cL51, cL52, cL64, cL99, cL100, cL700, cL1000, cL9999, cL10000, cI_add, cI_sub, cI_mul, cI_neg, cI_lt, cI_le, cI_eq, ne_eq, ifp, ifn, bI_p, bI_n, aZ_0, aZ_1, aZ_b, e_gdt, e_ifT, e_ifF, not_true_eq_false, not_false_eq_true, e_gd, aNz_c, cI_div, o]
            exact ok_someI ⟨rfl, H2⟩
          · simp (disch := omega) only [e_bi, e_bind, e_let, e_tr, e_tl, cLm1, cLm2, cL0, cL1, cL2, cL3, cL4, cL5, cL6, cL7, cL8, cL9, cL10, cL11, cL12, cL13, cL14, cL15, cL16, cL17, cL18, cL19, cL20, cL21, cL22, cL23, cL24, cL25, cL29, cL30, cL31, cL32, cL36, cL48, cL50, cL51, cL52, cL64, cL99, cL100, cL700, cL1000, cL9999, cL10000, cI_add, cI_sub, cI_mul, cI_neg, cI_lt, cI_le, cI_eq, ne_eq, ifp, ifn, bI_p, bI_n, aZ_0, aZ_1, aZ_b, e_gdt, e_ifT, e_ifF, not_true_eq_false, not_false_eq_true, e_gd, aNz_c, cI_div, o]
            exact ok_someI ⟨rfl, H2⟩
      · have H0 := H.code (x := cI 0)
        have hM0 := H0.2.2.2.2.1
        have hMS := MS.of hM0 H0.2.2.2.2.2.1
        have k := mwon_ok (g := a.toNat) (TOKs.of hp hn) hMS (by omega)
        rw [ea] at k
        have go : ∀ kk : Int32 → aD → Option (Int32 × aD), (∀ D2 : aD, gI D2 88 2 = cI 0 → D2.2 = D.2 → rel T K L B D2 → Ok (kk (cI (wtN T a.toNat 5)) D2) (fun r => wM (some (cI (odN T a.toNat b))) (gI r.2 88 2) r.1 ∧ r.2.2 = D.2 ∧ lawP r.2)) → Ok (aBi (f_X12_weightsOf (cI a) (pI D 88 2 (cI 0))) kk) (fun r => wM (some (cI (odN T a.toNat b))) (gI r.2 88 2) r.1 ∧ r.2.2 = D.2 ∧ lawP r.2) := by
          intro kk hk
          refine ok_biI (k.mono fun r q => ?_)
          obtain ⟨y, D2⟩ := r
          obtain ⟨q1, q2, q3⟩ := q
          have q2' : ∀ k j : Nat, ¬ (108 ≤ k ∧ k ≤ 112) → gI D2 k j = gI (pI D 88 2 (cI 0)) k j := q2
          obtain rfl : y = _ := q1
          exact hk D2 ((q2' _ _ (by omega)).trans gI_eq) q3 (H0.mod (fun k j a => q2' k j (by unfold mScr at a; omega)))
        unfold f_X12_odds
        by_cases z : allN T = 0
        · have w0 := wt_0 (g := a.toNat) hp.2.1 z
          have o : odN T a.toNat b = b := by unfold odN; rw [if_pos z]
          rw [w0, o] at go
          rw [o]
          rcases eb with rfl | rfl
          · simp (disch := omega) only [e_bi, e_bind, e_let, e_tr, e_tl, cLm1, cLm2, cL0, cL1, cL2, cL3, cL4, cL5, cL6, cL7, cL8, cL9, cL10, cL11, cL12, cL13, cL14, cL15, cL16, cL17, cL18, cL19, cL20, cL21, cL22, cL23, cL24, cL25, cL29, cL30, cL31, cL32, cL36, cL48, cL50, cL51, cL52, cL64, cL99, cL100, cL700, cL1000, cL9999, cL10000, cI_add, cI_sub, cI_mul, cI_neg, cI_lt, cI_le, cI_eq, ne_eq, ifp, ifn, bI_p, bI_n, aZ_0, aZ_1, aZ_b, e_gdt, e_ifT, e_ifF, not_true_eq_false, not_false_eq_true, e_gd, isGarden_eq hp hM0, mallW_eq hMS]
            refine go _ (fun D2 c1 c2 c3 => ?_)
            unfold J_X12_odds_54
            simp (disch := omega) only [e_bi, e_bind, e_let, e_tr, e_tl, cLm1, cLm2, cL0, cL1, cL2, cL3, cL4, cL5, cL6, cL7, cL8, cL9, cL10, cL11, cL12, cL13, cL14, cL15, cL16, cL17, cL18, cL19, cL20, cL21, cL22, cL23, cL24, cL25, cL29, cL30, cL31, cL32, cL36, cL48, cL50, cL51, cL52, cL64, cL99, cL100, cL700, cL1000, cL9999, cL10000, cI_add, cI_sub, cI_mul, cI_neg, cI_lt, cI_le, cI_eq, ne_eq, ifp, ifn, bI_p, bI_n, aZ_0, aZ_1, aZ_b, e_gdt, e_ifT, e_ifF, not_true_eq_false, not_false_eq_true, e_gd, z, aNz_c, cI_div]
            exact ok_someI ⟨⟨c1, rfl⟩, c2, T, K, L, B, c3⟩
          · simp (disch := omega) only [e_bi, e_bind, e_let, e_tr, e_tl, cLm1, cLm2, cL0, cL1, cL2, cL3, cL4, cL5, cL6, cL7, cL8, cL9, cL10, cL11, cL12, cL13, cL14, cL15, cL16, cL17, cL18, cL19, cL20, cL21, cL22, cL23, cL24, cL25, cL29, cL30, cL31, cL32, cL36, cL48, cL50, cL51, cL52, cL64, cL99, cL100, cL700, cL1000, cL9999, cL10000, cI_add, cI_sub, cI_mul, cI_neg, cI_lt, cI_le, cI_eq, ne_eq, ifp, ifn, bI_p, bI_n, aZ_0, aZ_1, aZ_b, e_gdt, e_ifT, e_ifF, not_true_eq_false, not_false_eq_true, e_gd, isGarden_eq hp hM0, mallW_eq hMS]
            refine go _ (fun D2 c1 c2 c3 => ?_)
            unfold J_X12_odds_54
            simp (disch := omega) only [e_bi, e_bind, e_let, e_tr, e_tl, cLm1, cLm2, cL0, cL1, cL2, cL3, cL4, cL5, cL6, cL7, cL8, cL9, cL10, cL11, cL12, cL13, cL14, cL15, cL16, cL17, cL18, cL19, cL20, cL21, cL22, cL23, cL24, cL25, cL29, cL30, cL31, cL32, cL36, cL48, cL50, cL51, cL52, cL64, cL99, cL100, cL700, cL1000, cL9999, cL10000, cI_add, cI_sub, cI_mul, cI_neg, cI_lt, cI_le, cI_eq, ne_eq, ifp, ifn, bI_p, bI_n, aZ_0, aZ_1, aZ_b, e_gdt, e_ifT, e_ifF, not_true_eq_false, not_false_eq_true, e_gd, z]
            exact ok_someI ⟨⟨c1, rfl⟩, c2, T, K, L, B, c3⟩
        · have g1 := g0 z
          have g2 := gl z
          have eg := fun D2 : aD => mgcd_eq (D := D2) (a := (allN T).toNat) (b := (wtN T a.toNat 5).toNat) (by omega) (by omega)
          rw [Nat.gcd_comm, ew, el] at eg
          generalize hgg : Nat.gcd (wtN T a.toNat 5).toNat (allN T).toNat = gg at g1 g2 eg
          have o : odN T a.toNat b = if b = 0 then wtN T a.toNat 5 / (gg : Int) else allN T / (gg : Int) := by unfold odN; rw [if_neg z, hgg]
          rw [o] at go
          rw [o]
          rcases eb with rfl | rfl
          · rw [if_pos rfl] at go
            rw [if_pos rfl]
            simp (disch := omega) only [e_bi, e_bind, e_let, e_tr, e_tl, cLm1, cLm2, cL0, cL1, cL2, cL3, cL4, cL5, cL6, cL7, cL8, cL9, cL10, cL11, cL12, cL13, cL14, cL15, cL16, cL17, cL18, cL19, cL20, cL21, cL22, cL23, cL24, cL25, cL29, cL30, cL31, cL32, cL36, cL48, cL50, cL51, cL52, cL64, cL99, cL100, cL700, cL1000, cL9999, cL10000, cI_add, cI_sub, cI_mul, cI_neg, cI_lt, cI_le, cI_eq, ne_eq, ifp, ifn, bI_p, bI_n, aZ_0, aZ_1, aZ_b, e_gdt, e_ifT, e_ifF, not_true_eq_false, not_false_eq_true, e_gd, isGarden_eq hp hM0, mallW_eq hMS]
            refine go _ (fun D2 c1 c2 c3 => ?_)
            unfold J_X12_odds_54
            simp (disch := omega) only [e_bi, e_bind, e_let, e_tr, e_tl, cLm1, cLm2, cL0, cL1, cL2, cL3, cL4, cL5, cL6, cL7, cL8, cL9, cL10, cL11, cL12, cL13, cL14, cL15, cL16, cL17, cL18, cL19, cL20, cL21, cL22, cL23, cL24, cL25, cL29, cL30, cL31, cL32, cL36, cL48, cL50, cL51, cL52, cL64, cL99, cL100, cL700, cL1000, cL9999, cL10000, cI_add, cI_sub, cI_mul, cI_neg, cI_lt, cI_le, cI_eq, ne_eq, ifp, ifn, bI_p, bI_n, aZ_0, aZ_1, aZ_b, e_gdt, e_ifT, e_ifF, not_true_eq_false, not_false_eq_true, e_gd, eg, aNz_c, cI_div]
            exact ok_someI ⟨⟨c1, rfl⟩, c2, T, K, L, B, c3⟩
          · rw [if_neg (by omega)] at go
            rw [if_neg (by omega)]
            simp (disch := omega) only [e_bi, e_bind, e_let, e_tr, e_tl, cLm1, cLm2, cL0, cL1, cL2, cL3, cL4, cL5, cL6, cL7, cL8, cL9, cL10, cL11, cL12, cL13, cL14, cL15, cL16, cL17, cL18, cL19, cL20, cL21, cL22, cL23, cL24, cL25, cL29, cL30, cL31, cL32, cL36, cL48, cL50, cL51, cL52, cL64, cL99, cL100, cL700, cL1000, cL9999, cL10000, cI_add, cI_sub, cI_mul, cI_neg, cI_lt, cI_le, cI_eq, ne_eq, ifp, ifn, bI_p, bI_n, aZ_0, aZ_1, aZ_b, e_gdt, e_ifT, e_ifF, not_true_eq_false, not_false_eq_true, e_gd, isGarden_eq hp hM0, mallW_eq hMS]
            refine go _ (fun D2 c1 c2 c3 => ?_)
            unfold J_X12_odds_54
            simp (disch := omega) only [e_bi, e_bind, e_let, e_tr, e_tl, cLm1, cLm2, cL0, cL1, cL2, cL3, cL4, cL5, cL6, cL7, cL8, cL9, cL10, cL11, cL12, cL13, cL14, cL15, cL16, cL17, cL18, cL19, cL20, cL21, cL22, cL23, cL24, cL25, cL29, cL30, cL31, cL32, cL36, cL48, cL50, cL51, cL52, cL64, cL99, cL100, cL700, cL1000, cL9999, cL10000, cI_add, cI_sub, cI_mul, cI_neg, cI_lt, cI_le, cI_eq, ne_eq, ifp, ifn, bI_p, bI_n, aZ_0, aZ_1, aZ_b, e_gdt, e_ifT, e_ifF, not_true_eq_false, not_false_eq_true, e_gd, eg, aNz_c, cI_div]
            exact ok_someI ⟨⟨c1, rfl⟩, c2, T, K, L, B, c3⟩
    · refine hp_step (fc := f_X11_odds (cI a) (cI b) D) (fm := fun D => f_X12_odds (cI a) (cI b) D) (P := lawP) (C := rel T K L B) none (fun D x h => h) ?_ (fun D H => ?_)
      · unfold f_X11_odds
        simp (disch := omega) only [e_bi, e_bind, e_let, e_tr, e_tl, cLm1, cLm2, cL0, cL1, cL2, cL3, cL4, cL5, cL6, cL7, cL8, cL9, cL10, cL11, cL12, cL13, cL14, cL15, cL16, cL17, cL18, cL19, cL20, cL21, cL22, cL23, cL24, cL25, cL29, cL30, cL31, cL32, cL36, cL48, cL50, cL51, cL52, cL64, cL99, cL100, cL700, cL1000, cL9999, cL10000, cI_add, cI_sub, cI_mul, cI_neg, cI_lt, cI_le, cI_eq, ne_eq, ifp, ifn, bI_p, bI_n, aZ_0, aZ_1, aZ_b, e_gdt, e_ifT, e_ifF, not_true_eq_false, not_false_eq_true, e_gd, (needGarden_eq hp hC ha1 ha2).1 x1, isBelow_eq, need_0]
        exact ok_someI ⟨rfl, H⟩
      · have H0 := H.code (x := cI 0)
        have hM0 := H0.2.2.2.2.1
        unfold f_X12_odds
        by_cases z : b < 0
        · simp (disch := omega) only [e_bi, e_bind, e_let, e_tr, e_tl, cLm1, cLm2, cL0, cL1, cL2, cL3, cL4, cL5, cL6, cL7, cL8, cL9, cL10, cL11, cL12, cL13, cL14, cL15, cL16, cL17, cL18, cL19, cL20, cL21, cL22, cL23, cL24, cL25, cL29, cL30, cL31, cL32, cL36, cL48, cL50, cL51, cL52, cL64, cL99, cL100, cL700, cL1000, cL9999, cL10000, cI_add, cI_sub, cI_mul, cI_neg, cI_lt, cI_le, cI_eq, ne_eq, ifp, ifn, bI_p, bI_n, aZ_0, aZ_1, aZ_b, e_gdt, e_ifT, e_ifF, not_true_eq_false, not_false_eq_true, e_gd, isGarden_eq hp hM0, fail_eq]
          exact ok_someI ⟨gI_eq, rfl, T, K, L, B, H0.code⟩
        · simp (disch := omega) only [e_bi, e_bind, e_let, e_tr, e_tl, cLm1, cLm2, cL0, cL1, cL2, cL3, cL4, cL5, cL6, cL7, cL8, cL9, cL10, cL11, cL12, cL13, cL14, cL15, cL16, cL17, cL18, cL19, cL20, cL21, cL22, cL23, cL24, cL25, cL29, cL30, cL31, cL32, cL36, cL48, cL50, cL51, cL52, cL64, cL99, cL100, cL700, cL1000, cL9999, cL10000, cI_add, cI_sub, cI_mul, cI_neg, cI_lt, cI_le, cI_eq, ne_eq, ifp, ifn, bI_p, bI_n, aZ_0, aZ_1, aZ_b, e_gdt, e_ifT, e_ifF, not_true_eq_false, not_false_eq_true, e_gd, isGarden_eq hp hM0, fail_eq]
          exact ok_someI ⟨gI_eq, rfl, T, K, L, B, H0.code⟩
  · refine hp_step (fc := f_X11_odds (cI a) (cI b) D) (fm := fun D => f_X12_odds (cI a) (cI b) D) (P := lawP) (C := rel T K L B) none (fun D x h => h) ?_ (fun D H => ?_)
    · unfold f_X11_odds
      simp (disch := omega) only [e_bi, e_bind, e_let, e_tr, e_tl, cLm1, cLm2, cL0, cL1, cL2, cL3, cL4, cL5, cL6, cL7, cL8, cL9, cL10, cL11, cL12, cL13, cL14, cL15, cL16, cL17, cL18, cL19, cL20, cL21, cL22, cL23, cL24, cL25, cL29, cL30, cL31, cL32, cL36, cL48, cL50, cL51, cL52, cL64, cL99, cL100, cL700, cL1000, cL9999, cL10000, cI_add, cI_sub, cI_mul, cI_neg, cI_lt, cI_le, cI_eq, ne_eq, ifp, ifn, bI_p, bI_n, aZ_0, aZ_1, aZ_b, e_gdt, e_ifT, e_ifF, not_true_eq_false, not_false_eq_true, e_gd, (needGarden_eq hp hC ha1 ha2).2 x1]
      exact ok_someI ⟨rfl, H⟩
    · have H0 := H.code (x := cI 0)
      have hM0 := H0.2.2.2.2.1
      unfold f_X12_odds
      simp (disch := omega) only [e_bi, e_bind, e_let, e_tr, e_tl, cLm1, cLm2, cL0, cL1, cL2, cL3, cL4, cL5, cL6, cL7, cL8, cL9, cL10, cL11, cL12, cL13, cL14, cL15, cL16, cL17, cL18, cL19, cL20, cL21, cL22, cL23, cL24, cL25, cL29, cL30, cL31, cL32, cL36, cL48, cL50, cL51, cL52, cL64, cL99, cL100, cL700, cL1000, cL9999, cL10000, cI_add, cI_sub, cI_mul, cI_neg, cI_lt, cI_le, cI_eq, ne_eq, ifp, ifn, bI_p, bI_n, aZ_0, aZ_1, aZ_b, e_gdt, e_ifT, e_ifF, not_true_eq_false, not_false_eq_true, e_gd, isGarden_eq hp hM0, fail_eq]
      exact ok_someI ⟨gI_eq, rfl, T, K, L, B, H0.code⟩
end WGT
