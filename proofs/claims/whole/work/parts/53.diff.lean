/-! fair: the greatest difference of an order of gates -/
section DIF
theorem mrow {D : aD} {T : aT} {o : Nat → Int} {w i g : Nat} (hM : mkD D T (fun _ _ _ => True)) (hw : w < 5) (hz : 0 < T 0 (10 + w)) (hi : (i : Int) < T 0 5) (o1 : 0 ≤ o i) (o2 : o i < T 0 5) (hg : g < 5) (hg3 : (g : Int) < T 0 3) :
    gI D 78 (((w * 5 + i) * 5 + (o i).toNat) * 5 + g) = cI (mrN T (rawN T (T 11 (o i).toNat) (hrN T i) w) (ownN T (T 11 (o i).toNat) (hrN T i) w) g) := by
  rw [hM w i (o i).toNat g trivial hw hz hi (by omega) hg]
  unfold mkV
  rw [if_pos hg3]
theorem cdif_eq {D : aD} {T : aT} {o : Nat → Int} {w : Nat} (hp : TOKp T) (hC : CP D 2 T) (hM : mkD D T (fun _ _ _ => True)) (hw : w < 5) (hz : 0 < T 0 (10 + w)) (h3 : 0 < T 0 3) (ho : ∀ i : Nat, (i : Int) < T 0 5 → gI D 75 i = cI (o i) ∧ 0 ≤ o i ∧ o i < T 0 5)
    (hT : TOKs T) : f_X2_difference (cI (w : Int)) D = some (cI (dwN T o w), D) := by
  have hq := hp.1
  obtain ⟨-, -, p3, -⟩ := CP.two hC
  have p5 := p3 5 (by omega) (by omega)
  have pg := p3 3 (by omega) (by omega)
  have sb := fun g hg => smR_b (o := o) (w := w) (g := g) hT (fun i hi => (ho i hi).2) hg
  refine ok_eq ?_
  unfold f_X2_difference J_X2_difference_7
  refine ok_bindI (ok_lp (fun g t => t.1 = cI (if g = 0 then 0 else mxF (smR T o w) (g - 1)) ∧ t.2.1 = cI (if g = 0 then 0 else mnF (smR T o w) (g - 1)) ∧ t.2.2.1 = cI (g : Int) ∧ t.2.2.2 = D) (T 0 3).toNat (by omega) ⟨rfl, rfl, rfl, rfl⟩ ?_)
  rintro g ⟨x1, x2, x3, D1⟩ hg ⟨q1, q2, q3, q4⟩
  obtain rfl : x1 = _ := q1
  obtain rfl : x2 = _ := q2
  obtain rfl : x3 = _ := q3
  obtain rfl : D1 = D := q4
  show Ok (B_X2_difference_7 (cI (w : Int)) (cI (if g = 0 then 0 else mxF (smR T o w) (g - 1))) (cI (if g = 0 then 0 else mnF (smR T o w) (g - 1))) (cI (g : Int)) D1) _
  by_cases c : (g : Int) < T 0 3
  · have ev : B_X2_difference_7 (cI (w : Int)) (cI (if g = 0 then 0 else mxF (smR T o w) (g - 1))) (cI (if g = 0 then 0 else mnF (smR T o w) (g - 1))) (cI (g : Int)) D1 = J_X2_difference_69 (cI (w : Int)) (cI (if g = 0 then 0 else mxF (smR T o w) (g - 1))) (cI (if g = 0 then 0 else mnF (smR T o w) (g - 1))) (cI (g : Int)) (cI (smR T o w g)) D1 := by
      generalize cI (if g = 0 then 0 else mxF (smR T o w) (g - 1)) = X1
      generalize cI (if g = 0 then 0 else mnF (smR T o w) (g - 1)) = X2
      have L : aLp (fun s : Int32 × Int32 × aD => B_X2_difference_25 (cI (w : Int)) X1 X2 (cI (g : Int)) s.1 s.2.1 s.2.2) (cI 0, cI 0, D1) = some (cI (smR T o w g), D1) := by
        refine lp_cnt (body := fun s : Int32 × Int32 × aD => B_X2_difference_25 (cI (w : Int)) X1 X2 (cI (g : Int)) s.1 s.2.1 s.2.2) (T 0 5).toNat (by omega) (fun i => (cI (sgN i (fun i => mrN T (rawN T (T 11 (o i).toNat) (hrN T i) w) (ownN T (T 11 (o i).toNat) (hrN T i) w) g)), cI (i : Int), D1)) (cI (smR T o w g), D1) ?_ ?_
        · intro i hi
          obtain ⟨o1, o2, o3⟩ := ho i (by omega)
          have mr := mrow (g := g) hM hw hz (show (i : Int) < T 0 5 by omega) o2 o3 (by omega) c
          have e : ((i : Int)).toNat = i := by omega
          have ex : ((((w : Int) * 5 + (i : Int)) * 5 + o i) * 5 + (g : Int)).toNat = ((w * 5 + i) * 5 + (o i).toNat) * 5 + g := by omega
          show B_X2_difference_25 (cI (w : Int)) X1 X2 (cI (g : Int)) (cI (sgN i _)) (cI (i : Int)) D1 = _
          unfold B_X2_difference_25 f_X2_placeOf
          simp (disch := omega) only [e_bi, e_bind, e_let, e_tr, e_tl, cLm1, cLm2, cL0, cL1, cL2, cL3, cL4, cL5, cL6, cL7, cL8, cL9, cL10, cL11, cL12, cL13, cL14, cL15, cL16, cL17, cL18, cL19, cL20, cL21, cL22, cL23, cL24, cL25, cL29, cL30, cL31, cL32, cL36, cL48, cL50, cL51, cL52, cL64, cL99, cL100, cL700, cL1000, cL9999, cL10000, cI_add, cI_sub, cI_mul, cI_neg, cI_lt, cI_le, cI_eq, ne_eq, ifp, ifn, bI_p, bI_n, aZ_0, aZ_1, aZ_b, e_gdt, e_ifT, e_ifF, not_true_eq_false, not_false_eq_true, e_gd, p5, cI_inT, cI_nat, e, o1, ex, mr]
          rw [sgN]
          rfl
        · show B_X2_difference_25 (cI (w : Int)) X1 X2 (cI (g : Int)) (cI (sgN (T 0 5).toNat _)) (cI ((T 0 5).toNat : Nat)) D1 = _
          unfold B_X2_difference_25
          simp (disch := omega) only [e_bi, e_bind, e_let, e_tr, e_tl, cLm1, cLm2, cL0, cL1, cL2, cL3, cL4, cL5, cL6, cL7, cL8, cL9, cL10, cL11, cL12, cL13, cL14, cL15, cL16, cL17, cL18, cL19, cL20, cL21, cL22, cL23, cL24, cL25, cL29, cL30, cL31, cL32, cL36, cL48, cL50, cL51, cL52, cL64, cL99, cL100, cL700, cL1000, cL9999, cL10000, cI_add, cI_sub, cI_mul, cI_neg, cI_lt, cI_le, cI_eq, ne_eq, ifp, ifn, bI_p, bI_n, aZ_0, aZ_1, aZ_b, e_gdt, e_ifT, e_ifF, not_true_eq_false, not_false_eq_true, e_gd, p5]
          rfl
      unfold B_X2_difference_7 J_X2_difference_25
      rw [pg, show (if cI (T 0 3) ≤ cI (g : Int) then _ else _ : Option ((Int32 × Int32 × Int32 × aD) ⊕ (Int32 × Int32 × aD))) = _ from if_neg (show ¬ (cI (T 0 3) ≤ cI (g : Int)) by rw [cI_le (by omega) (by omega) (by omega) (by omega)]; omega)]
      rw [show aLp (fun s : Int32 × Int32 × aD => B_X2_difference_25 (cI (w : Int)) X1 X2 (cI (g : Int)) s.1 s.2.1 s.2.2) (0, 0, D1) = _ from L]
      rfl
    rw [ev]
    have fb := sb g (by omega)
    unfold J_X2_difference_69 J_X2_difference_85
    by_cases z : g = 0
    · subst z
      simp (disch := omega) only [e_bi, e_bind, e_let, e_tr, e_tl, cLm1, cLm2, cL0, cL1, cL2, cL3, cL4, cL5, cL6, cL7, cL8, cL9, cL10, cL11, cL12, cL13, cL14, cL15, cL16, cL17, cL18, cL19, cL20, cL21, cL22, cL23, cL24, cL25, cL29, cL30, cL31, cL32, cL36, cL48, cL50, cL51, cL52, cL64, cL99, cL100, cL700, cL1000, cL9999, cL10000, cI_add, cI_sub, cI_mul, cI_neg, cI_lt, cI_le, cI_eq, ne_eq, ifp, ifn, bI_p, bI_n, aZ_0, aZ_1, aZ_b, e_gdt, e_ifT, e_ifF, not_true_eq_false, not_false_eq_true, e_gd]
      exact ok_someI (Or.inl ⟨_, rfl, by omega, rfl, rfl, rfl, rfl⟩)
    · obtain ⟨m, rfl⟩ : ∃ m, g = m + 1 := ⟨g - 1, by omega⟩
      have mb := mx_b (f := smR T o w) (B := 1263600) m (fun g hg => sb g (by omega))
      rw [if_neg z, if_neg z, Nat.add_sub_cancel]
      have e1 : (if cI (mxF (smR T o w) m) < cI (smR T o w (m + 1)) then cI (smR T o w (m + 1)) else cI (mxF (smR T o w) m)) = cI (mxF (smR T o w) (m + 1)) := by
        rw [mxF]
        by_cases t : mxF (smR T o w) m < smR T o w (m + 1)
        · rw [if_pos (by rw [cI_lt (by omega) (by omega) (by omega) (by omega)]; exact t), if_pos t]
        · rw [if_neg (by rw [cI_lt (by omega) (by omega) (by omega) (by omega)]; exact t), if_neg t]
      have e2 : (if cI (smR T o w (m + 1)) < cI (mnF (smR T o w) m) then cI (smR T o w (m + 1)) else cI (mnF (smR T o w) m)) = cI (mnF (smR T o w) (m + 1)) := by
        rw [mnF]
        by_cases t : smR T o w (m + 1) < mnF (smR T o w) m
        · rw [if_pos (by rw [cI_lt (by omega) (by omega) (by omega) (by omega)]; exact t), if_pos t]
        · rw [if_neg (by rw [cI_lt (by omega) (by omega) (by omega) (by omega)]; exact t), if_neg t]
      have nz : cI ((m + 1 : Nat) : Int) ≠ 0 := by rw [cL0, cI_ne (by omega) (by omega) (by omega) (by omega)]; omega
      rw [if_pos nz, if_pos nz, e1, e2]
      simp only [cL1, e_let, cI_add]
      exact ok_someI (Or.inl ⟨_, rfl, by omega, rfl, rfl, rfl, rfl⟩)
  · obtain rfl : g = (T 0 3).toNat := by omega
    unfold B_X2_difference_7
    rw [if_neg (show ¬ (T 0 3).toNat = 0 by omega), if_neg (show ¬ (T 0 3).toNat = 0 by omega)]
    simp (disch := omega) only [e_bi, e_bind, e_let, e_tr, e_tl, cLm1, cLm2, cL0, cL1, cL2, cL3, cL4, cL5, cL6, cL7, cL8, cL9, cL10, cL11, cL12, cL13, cL14, cL15, cL16, cL17, cL18, cL19, cL20, cL21, cL22, cL23, cL24, cL25, cL29, cL30, cL31, cL32, cL36, cL48, cL50, cL51, cL52, cL64, cL99, cL100, cL700, cL1000, cL9999, cL10000, cI_add, cI_sub, cI_mul, cI_neg, cI_lt, cI_le, cI_eq, ne_eq, ifp, ifn, bI_p, bI_n, aZ_0, aZ_1, aZ_b, e_gdt, e_ifT, e_ifF, not_true_eq_false, not_false_eq_true, e_gd, pg]
    refine ok_someI (Or.inr ⟨_, rfl, ?_⟩)
    unfold J_X2_difference_109
    simp only [cI_sub]
    exact ok_someI rfl
theorem cgd_eq {D : aD} {T : aT} {o : Nat → Int} (hp : TOKp T) (hC : CP D 2 T) (hM : mkD D T (fun _ _ _ => True)) (h3 : 0 < T 0 3) (ho : ∀ i : Nat, (i : Int) < T 0 5 → gI D 75 i = cI (o i) ∧ 0 ≤ o i ∧ o i < T 0 5)
    (hT : TOKs T) : f_X2_greatestDifference D = some (cI (gdN T o 5), D) := by
  have hq := hp.1
  obtain ⟨-, -, -, q4, -⟩ := CP.two hC
  have L : aLp (fun s : Int32 × Int32 × aD => B_X2_greatestDifference_4 s.1 s.2.1 s.2.2) (cI 0, cI 0, D) = some (cI (gdN T o 5), D) := by
    refine lp_cnt (body := fun s : Int32 × Int32 × aD => B_X2_greatestDifference_4 s.1 s.2.1 s.2.2) 5 (by omega) (fun w => (cI (gdN T o w), cI (w : Int), D)) (cI (gdN T o 5), D) ?_ ?_
    · intro w hw
      have q := q4 w hw
      have wb := hp.2.1 w hw
      have e : ((w : Int)).toNat = w := by omega
      have gb := gd_b hT h3 (fun i hi => (ho i hi).2) w
      have db := dw_b (w := w) hT h3 (fun i hi => (ho i hi).2)
      have st : gdN T o (w + 1) = if 0 < T 0 (10 + w) then (if gdN T o w < dwN T o w then dwN T o w else gdN T o w) else gdN T o w := rfl
      show B_X2_greatestDifference_4 (cI (gdN T o w)) (cI (w : Int)) D = _
      unfold B_X2_greatestDifference_4
      by_cases z : 0 < T 0 (10 + w)
      · rw [if_pos z] at st
        rw [st]
        by_cases t : gdN T o w < dwN T o w
        · simp (disch := omega) only [e_bi, e_bind, e_let, e_tr, e_tl, cLm1, cLm2, cL0, cL1, cL2, cL3, cL4, cL5, cL6, cL7, cL8, cL9, cL10, cL11, cL12, cL13, cL14, cL15, cL16, cL17, cL18, cL19, cL20, cL21, cL22, cL23, cL24, cL25, cL29, cL30, cL31, cL32, cL36, cL48, cL50, cL51, cL52, cL64, cL99, cL100, cL700, cL1000, cL9999, cL10000, cI_add, cI_sub, cI_mul, cI_neg, cI_lt, cI_le, cI_eq, ne_eq, ifp, ifn, bI_p, bI_n, aZ_0, aZ_1, aZ_b, e_gdt, e_ifT, e_ifF, not_true_eq_false, not_false_eq_true, e_gd, cI_inT, cI_nat, e, q, cdif_eq hp hC hM hw z h3 ho hT]
          rfl
        · simp (disch := omega) only [e_bi, e_bind, e_let, e_tr, e_tl, cLm1, cLm2, cL0, cL1, cL2, cL3, cL4, cL5, cL6, cL7, cL8, cL9, cL10, cL11, cL12, cL13, cL14, cL15, cL16, cL17, cL18, cL19, cL20, cL21, cL22, cL23, cL24, cL25, cL29, cL30, cL31, cL32, cL36, cL48, cL50, cL51, cL52, cL64, cL99, cL100, cL700, cL1000, cL9999, cL10000, cI_add, cI_sub, cI_mul, cI_neg, cI_lt, cI_le, cI_eq, ne_eq, ifp, ifn, bI_p, bI_n, aZ_0, aZ_1, aZ_b, e_gdt, e_ifT, e_ifF, not_true_eq_false, not_false_eq_true, e_gd, cI_inT, cI_nat, e, q, cdif_eq hp hC hM hw z h3 ho hT]
          rfl
      · rw [if_neg z] at st
        rw [st]
        simp (disch := omega) only [e_bi, e_bind, e_let, e_tr, e_tl, cLm1, cLm2, cL0, cL1, cL2, cL3, cL4, cL5, cL6, cL7, cL8, cL9, cL10, cL11, cL12, cL13, cL14, cL15, cL16, cL17, cL18, cL19, cL20, cL21, cL22, cL23, cL24, cL25, cL29, cL30, cL31, cL32, cL36, cL48, cL50, cL51, cL52, cL64, cL99, cL100, cL700, cL1000, cL9999, cL10000, cI_add, cI_sub, cI_mul, cI_neg, cI_lt, cI_le, cI_eq, ne_eq, ifp, ifn, bI_p, bI_n, aZ_0, aZ_1, aZ_b, e_gdt, e_ifT, e_ifF, not_true_eq_false, not_false_eq_true, e_gd, cI_inT, cI_nat, e, q]
        rfl
    · show B_X2_greatestDifference_4 (cI (gdN T o 5)) (cI ((5 : Nat) : Int)) D = _
      unfold B_X2_greatestDifference_4
      rw [if_pos (show (5 : Int32) ≤ cI ((5 : Nat) : Int) by decide)]
  unfold f_X2_greatestDifference J_X2_greatestDifference_4
  rw [show aLp (fun s : Int32 × Int32 × aD => B_X2_greatestDifference_4 s.1 s.2.1 s.2.2) (0, 0, D) = _ from L]
  rfl
theorem mgd_ok {D : aD} {T : aT} {o : Nat → Int} (hp : TOKs T) (hM : MS D T) (h3 : 0 < T 0 3) (ho : ∀ i : Nat, (i : Int) < T 0 5 → gI D 116 i = cI (o i) ∧ 0 ≤ o i ∧ o i < T 0 5) :
    Ok (f_X12_differenceBy 116 5 D) (fun r => r.1 = cI (gdN T o 5) ∧ (∀ k j : Nat, ¬ (108 ≤ k ∧ k ≤ 112) → gI r.2 k j = gI D k j) ∧ r.2.2 = D.2) := by
  have hq := hp.1
  unfold f_X12_differenceBy J_X12_differenceBy_4
  refine ok_bindI (ok_lp (fun w t => t.1 = cI (gdN T o w) ∧ t.2.1 = cI (w : Int) ∧ (∀ k j : Nat, ¬ (108 ≤ k ∧ k ≤ 112) → gI t.2.2 k j = gI D k j) ∧ t.2.2.2 = D.2) 5 (by omega) ⟨rfl, rfl, fun _ _ _ => rfl, rfl⟩ ?_)
  rintro w ⟨x1, x2, D1⟩ hw ⟨q1, q2, q3, q4⟩
  obtain rfl : x1 = _ := q1
  obtain rfl : x2 = _ := q2
  have q3' : ∀ k j : Nat, ¬ (108 ≤ k ∧ k ≤ 112) → gI D1 k j = gI D k j := q3
  show Ok (B_X12_differenceBy_4 116 5 (cI (gdN T o w)) (cI (w : Int)) D1) _
  have hM1 : MS D1 T := hM.fr (fun k j a => q3' k j (by omega)) (fun j a b => q3' _ j (by omega))
  have st : gdN T o (w + 1) = if 0 < T 0 (10 + w) then (if gdN T o w < dwN T o w then dwN T o w else gdN T o w) else gdN T o w := rfl
  by_cases c : w < 5
  · have wb := hp.2.1 w c
    have mw := hM1.1 (10 + w) (by omega) (by omega)
    have ew : (10 + (w : Int)).toNat = 10 + w := by omega
    have gb := gd_b hp h3 (fun i hi => (ho i hi).2) w
    have db := dw_b (w := w) hp h3 (fun i hi => (ho i hi).2)
    by_cases z : 0 < T 0 (10 + w)
    · rw [if_pos z] at st
      suffices hsu : ∀ Q : ((Int32 × Int32 × aD) ⊕ (Int32 × aD)) → Prop, (∀ D5 : aD, (∀ k j : Nat, ¬ (108 ≤ k ∧ k ≤ 112) → gI D5 k j = gI D k j) → D5.2 = D.2 → Q (.inl (cI (gdN T o (w + 1)), cI ((w : Int) + 1), D5))) → Ok (B_X12_differenceBy_4 116 5 (cI (gdN T o w)) (cI (w : Int)) D1) Q from hsu _ (fun D5 a b => Or.inl ⟨_, rfl, c, rfl, rfl, a, b⟩)
      intro Q hQ
      unfold B_X12_differenceBy_4
      simp (disch := omega) only [e_bi, e_bind, e_let, e_tr, e_tl, cLm1, cLm2, cL0, cL1, cL2, cL3, cL4, cL5, cL6, cL7, cL8, cL9, cL10, cL11, cL12, cL13, cL14, cL15, cL16, cL17, cL18, cL19, cL20, cL21, cL22, cL23, cL24, cL25, cL29, cL30, cL31, cL32, cL36, cL48, cL50, cL51, cL52, cL64, cL99, cL100, cL700, cL1000, cL9999, cL10000, cI_add, cI_sub, cI_mul, cI_neg, cI_lt, cI_le, cI_eq, ne_eq, ifp, ifn, bI_p, bI_n, aZ_0, aZ_1, aZ_b, e_gdt, e_ifT, e_ifF, not_true_eq_false, not_false_eq_true, e_gd, cX0, cX1, cX2, cX3, cX4, cX5, cX6, cX7, cX8, cX9, cX10, cX11, cX12, cX13, cX14, cX15, cX16, cX17, cX18, cX19, cX20, cX21, cX22, cX23, cX24, cX25, cX29, cX30, cX31, cX32, cX36, Int.reduceToNat, cI_inT, cI_nat, ew, mw]
      refine ok_bindI ((tellSums_ok (a := 116) hp hM1 (Or.inr rfl) (fun i hi => ⟨(q3' _ _ (by omega)).trans (ho i hi).1, (ho i hi).2⟩) c).mono fun D2 k => ?_)
      obtain ⟨k1, k2, k3⟩ := k
      have s0 : gI D2 112 0 = cI (smR T o w 0) := by rw [k1 0 (by omega), if_pos (by omega)]
      have sb := fun g hg => smR_b (o := o) (w := w) (g := g) hp (fun i hi => (ho i hi).2) hg
      have m3 : gI D2 91 3 = cI (T 0 3) := (k2 _ _ (by omega)).trans (hM1.1 3 (by omega) (by omega))
      rw [s0]
      have L : aLp (fun s : Int32 × Int32 × Int32 × aD => B_X12_differenceBy_49 116 5 (cI (gdN T o w)) (cI (w : Int)) s.1 s.2.1 s.2.2.1 s.2.2.2) (cI (smR T o w 0), cI (smR T o w 0), cI 1, D2) = some (cI (mnF (smR T o w) ((T 0 3).toNat - 1)), cI (mxF (smR T o w) ((T 0 3).toNat - 1)), D2) := by
        refine lp_cnt (body := fun s : Int32 × Int32 × Int32 × aD => B_X12_differenceBy_49 116 5 (cI (gdN T o w)) (cI (w : Int)) s.1 s.2.1 s.2.2.1 s.2.2.2) ((T 0 3).toNat - 1) (by omega) (fun m => (cI (mnF (smR T o w) m), cI (mxF (smR T o w) m), cI ((m : Int) + 1), D2)) _ ?_ ?_
        · intro m hm
          have mb := mx_b (f := smR T o w) (B := 1263600) m (fun g hg => sb g (by omega))
          have fb := sb (m + 1) (by omega)
          have s1 : gI D2 112 (m + 1) = cI (smR T o w (m + 1)) := by rw [k1 (m + 1) (by omega), if_pos (by omega)]
          have e : ((m : Int) + 1).toNat = m + 1 := by omega
          have st1 : mxF (smR T o w) (m + 1) = if mxF (smR T o w) m < smR T o w (m + 1) then smR T o w (m + 1) else mxF (smR T o w) m := rfl
          have st2 : mnF (smR T o w) (m + 1) = if smR T o w (m + 1) < mnF (smR T o w) m then smR T o w (m + 1) else mnF (smR T o w) m := rfl
          show B_X12_differenceBy_49 116 5 (cI (gdN T o w)) (cI (w : Int)) (cI (mnF (smR T o w) m)) (cI (mxF (smR T o w) m)) (cI ((m : Int) + 1)) D2 = _
          unfold B_X12_differenceBy_49
          rw [st1, st2]
          by_cases t1 : mxF (smR T o w) m < smR T o w (m + 1)
          · by_cases t2 : smR T o w (m + 1) < mnF (smR T o w) m
            · omega
            · simp (disch := omega) only [e_bi, e_bind, e_let, e_tr, e_tl, cLm1, cLm2, cL0, cL1, cL2, cL3, cL4, cL5, cL6, cL7, cL8, cL9, cL10, cL11, cL12, cL13, cL14, cL15, cL16, cL17, cL18, cL19, cL20, cL21, cL22, cL23, cL24, cL25, cL29, cL30, cL31, cL32, cL36, cL48, cL50, cL51, cL52, cL64, cL99, cL100, cL700, cL1000, cL9999, cL10000, cI_add, cI_sub, cI_mul, cI_neg, cI_lt, cI_le, cI_eq, ne_eq, ifp, ifn, bI_p, bI_n, aZ_0, aZ_1, aZ_b, e_gdt, e_ifT, e_ifF, not_true_eq_false, not_false_eq_true, e_gd, cX0, cX1, cX2, cX3, cX4, cX5, cX6, cX7, cX8, cX9, cX10, cX11, cX12, cX13, cX14, cX15, cX16, cX17, cX18, cX19, cX20, cX21, cX22, cX23, cX24, cX25, cX29, cX30, cX31, cX32, cX36, Int.reduceToNat, cI_inT, cI_nat, m3, e, s1]
              rfl
          · by_cases t2 : smR T o w (m + 1) < mnF (smR T o w) m
            · simp (disch := omega) only [e_bi, e_bind, e_let, e_tr, e_tl, cLm1, cLm2, cL0, cL1, cL2, cL3, cL4, cL5, cL6, cL7, cL8, cL9, cL10, cL11, cL12, cL13, cL14, cL15, cL16, cL17, cL18, cL19, cL20, cL21, cL22, cL23, cL24, cL25, cL29, cL30, cL31, cL32, cL36, cL48, cL50, cL51, cL52, cL64, cL99, cL100, cL700, cL1000, cL9999, cL10000, cI_add, cI_sub, cI_mul, cI_neg, cI_lt, cI_le, cI_eq, ne_eq, ifp, ifn, bI_p, bI_n, aZ_0, aZ_1, aZ_b, e_gdt, e_ifT, e_ifF, not_true_eq_false, not_false_eq_true, e_gd, cX0, cX1, cX2, cX3, cX4, cX5, cX6, cX7, cX8, cX9, cX10, cX11, cX12, cX13, cX14, cX15, cX16, cX17, cX18, cX19, cX20, cX21, cX22, cX23, cX24, cX25, cX29, cX30, cX31, cX32, cX36, Int.reduceToNat, cI_inT, cI_nat, m3, e, s1]
              rfl
            · simp (disch := omega) only [e_bi, e_bind, e_let, e_tr, e_tl, cLm1, cLm2, cL0, cL1, cL2, cL3, cL4, cL5, cL6, cL7, cL8, cL9, cL10, cL11, cL12, cL13, cL14, cL15, cL16, cL17, cL18, cL19, cL20, cL21, cL22, cL23, cL24, cL25, cL29, cL30, cL31, cL32, cL36, cL48, cL50, cL51, cL52, cL64, cL99, cL100, cL700, cL1000, cL9999, cL10000, cI_add, cI_sub, cI_mul, cI_neg, cI_lt, cI_le, cI_eq, ne_eq, ifp, ifn, bI_p, bI_n, aZ_0, aZ_1, aZ_b, e_gdt, e_ifT, e_ifF, not_true_eq_false, not_false_eq_true, e_gd, cX0, cX1, cX2, cX3, cX4, cX5, cX6, cX7, cX8, cX9, cX10, cX11, cX12, cX13, cX14, cX15, cX16, cX17, cX18, cX19, cX20, cX21, cX22, cX23, cX24, cX25, cX29, cX30, cX31, cX32, cX36, Int.reduceToNat, cI_inT, cI_nat, m3, e, s1]
              rfl
        · show B_X12_differenceBy_49 116 5 (cI (gdN T o w)) (cI (w : Int)) (cI (mnF (smR T o w) ((T 0 3).toNat - 1))) (cI (mxF (smR T o w) ((T 0 3).toNat - 1))) (cI ((((T 0 3).toNat - 1 : Nat) : Int) + 1)) D2 = _
          unfold B_X12_differenceBy_49
          simp (disch := omega) only [e_bi, e_bind, e_let, e_tr, e_tl, cLm1, cLm2, cL0, cL1, cL2, cL3, cL4, cL5, cL6, cL7, cL8, cL9, cL10, cL11, cL12, cL13, cL14, cL15, cL16, cL17, cL18, cL19, cL20, cL21, cL22, cL23, cL24, cL25, cL29, cL30, cL31, cL32, cL36, cL48, cL50, cL51, cL52, cL64, cL99, cL100, cL700, cL1000, cL9999, cL10000, cI_add, cI_sub, cI_mul, cI_neg, cI_lt, cI_le, cI_eq, ne_eq, ifp, ifn, bI_p, bI_n, aZ_0, aZ_1, aZ_b, e_gdt, e_ifT, e_ifF, not_true_eq_false, not_false_eq_true, e_gd, cX0, cX1, cX2, cX3, cX4, cX5, cX6, cX7, cX8, cX9, cX10, cX11, cX12, cX13, cX14, cX15, cX16, cX17, cX18, cX19, cX20, cX21, cX22, cX23, cX24, cX25, cX29, cX30, cX31, cX32, cX36, Int.reduceToNat, cI_inT, m3]
      unfold J_X12_differenceBy_49
      rw [L, e_bind]
      unfold J_X12_differenceBy_94
      have D5f : ∀ k j : Nat, ¬ (108 ≤ k ∧ k ≤ 112) → gI D2 k j = gI D k j := fun k j a => (k2 k j a).trans (q3' k j a)
      have hv : gdN T o (w + 1) = if gdN T o w < dwN T o w then dwN T o w else gdN T o w := st
      rw [hv] at hQ
      by_cases t : gdN T o w < dwN T o w
      · rw [if_pos t] at hQ
        have t' : gdN T o w < mxF (smR T o w) ((T 0 3).toNat - 1) - mnF (smR T o w) ((T 0 3).toNat - 1) := t
        unfold dwN at db hQ
        simp (disch := omega) only [e_bi, e_bind, e_let, e_tr, e_tl, cLm1, cLm2, cL0, cL1, cL2, cL3, cL4, cL5, cL6, cL7, cL8, cL9, cL10, cL11, cL12, cL13, cL14, cL15, cL16, cL17, cL18, cL19, cL20, cL21, cL22, cL23, cL24, cL25, cL29, cL30, cL31, cL32, cL36, cL48, cL50, cL51, cL52, cL64, cL99, cL100, cL700, cL1000, cL9999, cL10000, cI_add, cI_sub, cI_mul, cI_neg, cI_lt, cI_le, cI_eq, ne_eq, ifp, ifn, bI_p, bI_n, aZ_0, aZ_1, aZ_b, e_gdt, e_ifT, e_ifF, not_true_eq_false, not_false_eq_true, e_gd]
        exact ok_someI (hQ D2 D5f (k3.trans q4))
      · rw [if_neg t] at hQ
        have t' : ¬ gdN T o w < mxF (smR T o w) ((T 0 3).toNat - 1) - mnF (smR T o w) ((T 0 3).toNat - 1) := t
        unfold dwN at db
        simp (disch := omega) only [e_bi, e_bind, e_let, e_tr, e_tl, cLm1, cLm2, cL0, cL1, cL2, cL3, cL4, cL5, cL6, cL7, cL8, cL9, cL10, cL11, cL12, cL13, cL14, cL15, cL16, cL17, cL18, cL19, cL20, cL21, cL22, cL23, cL24, cL25, cL29, cL30, cL31, cL32, cL36, cL48, cL50, cL51, cL52, cL64, cL99, cL100, cL700, cL1000, cL9999, cL10000, cI_add, cI_sub, cI_mul, cI_neg, cI_lt, cI_le, cI_eq, ne_eq, ifp, ifn, bI_p, bI_n, aZ_0, aZ_1, aZ_b, e_gdt, e_ifT, e_ifF, not_true_eq_false, not_false_eq_true, e_gd]
        exact ok_someI (hQ D2 D5f (k3.trans q4))
    · rw [if_neg z] at st
      unfold B_X12_differenceBy_4
      simp (disch := omega) only [e_bi, e_bind, e_let, e_tr, e_tl, cLm1, cLm2, cL0, cL1, cL2, cL3, cL4, cL5, cL6, cL7, cL8, cL9, cL10, cL11, cL12, cL13, cL14, cL15, cL16, cL17, cL18, cL19, cL20, cL21, cL22, cL23, cL24, cL25, cL29, cL30, cL31, cL32, cL36, cL48, cL50, cL51, cL52, cL64, cL99, cL100, cL700, cL1000, cL9999, cL10000, cI_add, cI_sub, cI_mul, cI_neg, cI_lt, cI_le, cI_eq, ne_eq, ifp, ifn, bI_p, bI_n, aZ_0, aZ_1, aZ_b, e_gdt, e_ifT, e_ifF, not_true_eq_false, not_false_eq_true, e_gd, cX0, cX1, cX2, cX3, cX4, cX5, cX6, cX7, cX8, cX9, cX10, cX11, cX12, cX13, cX14, cX15, cX16, cX17, cX18, cX19, cX20, cX21, cX22, cX23, cX24, cX25, cX29, cX30, cX31, cX32, cX36, Int.reduceToNat, cI_inT, cI_nat, ew, mw]
      exact ok_someI (Or.inl ⟨_, rfl, c, by rw [st], rfl, q3', q4⟩)
  · obtain rfl : w = 5 := by omega
    unfold B_X12_differenceBy_4
    simp (disch := omega) only [e_bi, e_bind, e_let, e_tr, e_tl, cLm1, cLm2, cL0, cL1, cL2, cL3, cL4, cL5, cL6, cL7, cL8, cL9, cL10, cL11, cL12, cL13, cL14, cL15, cL16, cL17, cL18, cL19, cL20, cL21, cL22, cL23, cL24, cL25, cL29, cL30, cL31, cL32, cL36, cL48, cL50, cL51, cL52, cL64, cL99, cL100, cL700, cL1000, cL9999, cL10000, cI_add, cI_sub, cI_mul, cI_neg, cI_lt, cI_le, cI_eq, ne_eq, ifp, ifn, bI_p, bI_n, aZ_0, aZ_1, aZ_b, e_gdt, e_ifT, e_ifF, not_true_eq_false, not_false_eq_true, e_gd]
    exact ok_someI (Or.inr ⟨_, rfl, ok_someI ⟨rfl, q3', q4⟩⟩)
end DIF
