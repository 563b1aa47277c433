/-! best: answers (16) -/
section BS2
def bsW (T : aT) (g : Nat) (b : Int) : Int := if 6 < (mnA T g).length then -2 else if b = 0 then (bsT T g (h13 T)).1 else rwV (bsT T g (h13 T)).2 (mnA T g)
theorem step_16 {D : aD} {v1 v2 v3 v4 v5 : Int32} (h : lawP D) : Ok2 (f_law_16 v1 v2 v3 v4 v5 D) (fun r D => r = 1 ∧ lawP D) := by
  obtain ⟨T, K, L, B, H⟩ := h
  have ⟨hp, hn, hC, hN, hM, hR, _⟩ := H
  have hq := hp.1
  have hT := TOKs.of hp hn
  obtain ⟨a, rfl, ha1, ha2⟩ := cI_of v1
  obtain ⟨b, rfl, hb1, hb2⟩ := cI_of v2
  unfold f_law_16 f_L_best
  by_cases x1 : 0 ≤ a ∧ a < T 0 3
  · by_cases x3 : 0 ≤ b ∧ b < 2
    · have ea : ((a.toNat : Nat) : Int) = a := by omega
      have eb : b = 0 ∨ b = 1 := by omega
      have nn := bs_nn (g := a.toNat) (H := h13 T) hp hT
      have len := mn_len (T := T) (g := a.toNat) (T 0 4).toNat
      have len' : (mnA T a.toNat).length ≤ (T 0 4).toNat := len
      refine hp_step (fc := f_X11_best (cI a) (cI b) D) (fm := fun D => f_X12_best (cI a) (cI b) D) (P := lawP) (C := rel T K L B) (some (cI (bsW T a.toNat b))) (fun D x h => h) ?_ (fun D H => ?_)
      · have po := plantsOf_eq (g := a.toNat) hp hC (by omega)
        rw [ea] at po
        unfold f_X11_best
        simp (disch := omega) only [e_bi, e_bind, e_let, e_tr, e_tl, cLm1, cLm2, cL0, cL1, cL2, cL3, cL4, cL5, cL6, cL7, cL8, cL9, cL10, cL11, cL12, cL13, cL14, cL15, cL16, cL17, cL18, cL19, cL20, cL21, cL22, cL23, cL24, cL25, cL29, cL30, cL31, cL32, cL36, cL48, cL50, cL51, cL52, cL64, cL99, cL100, cL700, cL1000, cL9999, cL10000, cI_add, cI_sub, cI_mul, cI_neg, cI_lt, cI_le, cI_eq, ne_eq, ifp, ifn, bI_p, bI_n, aZ_0, aZ_1, aZ_b, e_gdt, e_ifT, e_ifF, not_true_eq_false, not_false_eq_true, e_gd, (needGarden_eq hp hC ha1 ha2).1 x1, isBelow_eq, need_1, po]
        by_cases c : 6 < (mnA T a.toNat).length
        · have w : bsW T a.toNat b = -2 := if_pos c
          rw [w]
          simp (disch := omega) only [e_bi, e_bind, e_let, e_tr, e_tl, cLm1, cLm2, cL0, cL1, cL2, cL3, cL4, cL5, cL6, cL7, cL8, cL9, cL10, cL11, cL12, cL13, cL14, cL15, cL16, cL17, cL18, cL19, cL20, cL21, cL22, cL23, cL24, cL25, cL29, cL30, cL31, cL32, cL36, cL48, cL50, cL51, cL52, cL64, cL99, cL100, cL700, cL1000, cL9999, cL10000, cI_add, cI_sub, cI_mul, cI_neg, cI_lt, cI_le, cI_eq, ne_eq, ifp, ifn, bI_p, bI_n, aZ_0, aZ_1, aZ_b, e_gdt, e_ifT, e_ifF, not_true_eq_false, not_false_eq_true, e_gd]
          exact ok_someI ⟨rfl, H⟩
        · have w : bsW T a.toNat b = if b = 0 then (bsT T a.toNat (h13 T)).1 else rwV (bsT T a.toNat (h13 T)).2 (mnA T a.toNat) := if_neg c
          rw [w]
          simp (disch := omega) only [e_bi, e_bind, e_let, e_tr, e_tl, cLm1, cLm2, cL0, cL1, cL2, cL3, cL4, cL5, cL6, cL7, cL8, cL9, cL10, cL11, cL12, cL13, cL14, cL15, cL16, cL17, cL18, cL19, cL20, cL21, cL22, cL23, cL24, cL25, cL29, cL30, cL31, cL32, cL36, cL48, cL50, cL51, cL52, cL64, cL99, cL100, cL700, cL1000, cL9999, cL10000, cI_add, cI_sub, cI_mul, cI_neg, cI_lt, cI_le, cI_eq, ne_eq, ifp, ifn, bI_p, bI_n, aZ_0, aZ_1, aZ_b, e_gdt, e_ifT, e_ifF, not_true_eq_false, not_false_eq_true, e_gd]
          refine odds_cls H (fun D1 hC1 hN1 hK1 H1 => ?_)
          have tu := tune_ok (g := a.toNat) (fl := -1) hp hn hC1 (CK_13 hK1) (by omega) (by omega) (h13_b hn) (by omega) (by omega)
          rw [ea] at tu
          have e : tuF T a.toNat (-1) (h13 T) = bsT T a.toNat (h13 T) := (red_eq hp hT).symm
          rw [e] at tu
          refine ok_biI (tu.mono fun r q => ?_)
          obtain ⟨y, D2⟩ := r
          obtain ⟨q1, q2, q3, -, q5⟩ := q
          obtain rfl : y = _ := q1
          have H2 : rel T K L B D2 := H1.cls (fun k j a => q5 k j (by omega) (by omega) (by omega) (by omega) (by omega))
          dsimp only
          rcases eb with rfl | rfl
          · rw [if_neg (show ¬ (¬ (0 : Int) = 0) from fun z => z rfl), if_pos (show (0 : Int) = 0 from rfl)]
            exact ok_someI ⟨rfl, H2⟩
          · rw [if_pos (show ¬ (1 : Int) = 0 by omega), if_neg (show ¬ (1 : Int) = 0 by omega)]
            have q2' := q2 (by omega)
            refine ok_biI ((tunedRow_ok (by omega) q3.1.1 q2').mono fun r q => ?_)
            obtain rfl := q
            exact ok_someI ⟨rfl, H2⟩
      · have H0 := H.code (x := cI 0)
        have hM0 := H0.2.2.2.2.1
        have hMS := MS.of hM0 H0.2.2.2.2.2.1
        have tb := tellBest_ok (g := a.toNat) (H := h13 T) hT (by omega) (MS_13 hMS) (by omega) (h13_b hn)
        rw [ea] at tb
        have ev : f_X12_best (cI a) (cI b) D = aBi (f_X12_tellBest (cI a) (pI D 88 2 (cI 0))) (fun y_8 D_9 => if y_8 ≠ 0 then (J_X12_best_44 (cI b) 0 0 D_9) else (some ((-2), D_9))) := by
          unfold f_X12_best
          rcases eb with rfl | rfl
          · simp (disch := omega) only [e_bi, e_bind, e_let, e_tr, e_tl, cLm1, cLm2, cL0, cL1, cL2, cL3, cL4, cL5, cL6, cL7, cL8, cL9, cL10, cL11, cL12, cL13, cL14, cL15, cL16, cL17, cL18, cL19, cL20, cL21, cL22, cL23, cL24, cL25, cL29, cL30, cL31, cL32, cL36, cL48, cL50, cL51, cL52, cL64, cL99, cL100, cL700, cL1000, cL9999, cL10000, cI_add, cI_sub, cI_mul, cI_neg, cI_lt, cI_le, cI_eq, ne_eq, ifp, ifn, bI_p, bI_n, aZ_0, aZ_1, aZ_b, e_gdt, e_ifT, e_ifF, not_true_eq_false, not_false_eq_true, e_gd, isGarden_eq hp hM0]
          · simp (disch := omega) only [e_bi, e_bind, e_let, e_tr, e_tl, cLm1, cLm2, cL0, cL1, cL2, cL3, cL4, cL5, cL6, cL7, cL8, cL9, cL10, cL11, cL12, cL13, cL14, cL15, cL16, cL17, cL18, cL19, cL20, cL21, cL22, cL23, cL24, cL25, cL29, cL30, cL31, cL32, cL36, cL48, cL50, cL51, cL52, cL64, cL99, cL100, cL700, cL1000, cL9999, cL10000, cI_add, cI_sub, cI_mul, cI_neg, cI_lt, cI_le, cI_eq, ne_eq, ifp, ifn, bI_p, bI_n, aZ_0, aZ_1, aZ_b, e_gdt, e_ifT, e_ifF, not_true_eq_false, not_false_eq_true, e_gd, isGarden_eq hp hM0]
        show Ok (f_X12_best (cI a) (cI b) D) _
        rw [ev]
        refine ok_biI (tb.mono fun r q => ?_)
        obtain ⟨y, D2⟩ := r
        obtain ⟨q1, q2, q3, q4⟩ := q
        have q2' : MS D2 (hwT T (h13 T)) := q2
        have q3' : ∀ k j : Nat, ¬ (108 ≤ k ∧ k ≤ 114) → ¬ (k = 106 ∧ (j : Int) < T 0 4) → ¬ (k = 88 ∧ (j = 41 ∨ j = 42)) → gI D2 k j = gI (pI D 88 2 (cI 0)) k j := q3
        have fr : ∀ k j : Nat, ¬ mScr k j → gI D2 k j = gI (pI D 88 2 (cI 0)) k j := fun k j a => by
          by_cases z : k = 106 ∧ (j : Int) < T 0 4
          · obtain ⟨rfl, z⟩ := z
            have k1 : gI D2 106 j = cI (h13 T j) := q2'.2.2.2.2.2.2.1 j z
            rw [k1, h13_e z]
            exact (hMS.2.2.2.2.2.2.1 j z).symm
          · exact q3' k j (by unfold mScr at a; omega) z (by unfold mScr at a; omega)
        have c2 : gI D2 88 2 = cI 0 := (q3' _ _ (by omega) (by omega) (by omega)).trans gI_eq
        have q4' : D2.2 = D.2 := q4
        dsimp only
        rcases q1 with ⟨c, y0⟩ | ⟨c, y1, k1, k2⟩
        · obtain rfl : y = cI 0 := y0
          have w : bsW T a.toNat b = -2 := if_pos c
          rw [w, if_neg (show ¬ (cI 0 ≠ 0) from fun z => z rfl)]
          exact ok_someI ⟨⟨c2, rfl⟩, q4', T, K, L, B, H0.mod fr⟩
        · obtain rfl : y = cI 1 := y1
          have w : bsW T a.toNat b = if b = 0 then (bsT T a.toNat (h13 T)).1 else rwV (bsT T a.toNat (h13 T)).2 (mnA T a.toNat) := if_neg (by omega)
          have k1' : gI D2 88 42 = cI (bsT T a.toNat (h13 T)).1 := k1.1
          rw [w, if_pos (show cI 1 ≠ 0 by decide)]
          unfold J_X12_best_44
          rw [show aLp (fun s : Int32 × Int32 × aD => B_X12_best_44 (cI b) s.1 s.2.1 s.2.2) (0, 0, D2) = _ from mrow_ok (b := b) c k2.1 (k1.2 (by omega)), e_bind]
          unfold J_X12_best_71
          dsimp only
          rcases eb with rfl | rfl
          · rw [if_neg (show ¬ (cI 0 ≠ 0) from fun z => z rfl), if_pos (show (0 : Int) = 0 from rfl), k1']
            exact ok_someI ⟨⟨c2, rfl⟩, q4', T, K, L, B, H0.mod fr⟩
          · rw [if_pos (show cI 1 ≠ 0 by decide), if_neg (show ¬ (1 : Int) = 0 by omega)]
            exact ok_someI ⟨⟨c2, rfl⟩, q4', T, K, L, B, H0.mod fr⟩
    · refine hp_step (fc := f_X11_best (cI a) (cI b) D) (fm := fun D => f_X12_best (cI a) (cI b) D) (P := lawP) (C := rel T K L B) none (fun D x h => h) ?_ (fun D H => ?_)
      · unfold f_X11_best
        simp (disch := omega) only [e_bi, e_bind, e_let, e_tr, e_tl, cLm1, cLm2, cL0, cL1, cL2, cL3, cL4, cL5, cL6, cL7, cL8, cL9, cL10, cL11, cL12, cL13, cL14, cL15, cL16, cL17, cL18, cL19, cL20, cL21, cL22, cL23, cL24, cL25, cL29, cL30, cL31, cL32, cL36, cL48, cL50, cL51, cL52, cL64, cL99, cL100, cL700, cL1000, cL9999, cL10000, cI_add, cI_sub, cI_mul, cI_neg, cI_lt, cI_le, cI_eq, ne_eq, ifp, ifn, bI_p, bI_n, aZ_0, aZ_1, aZ_b, e_gdt, e_ifT, e_ifF, not_true_eq_false, not_false_eq_true, e_gd, (needGarden_eq hp hC ha1 ha2).1 x1, isBelow_eq, need_0]
        exact ok_someI ⟨rfl, H⟩
      · have H0 := H.code (x := cI 0)
        have hM0 := H0.2.2.2.2.1
        unfold f_X12_best
        by_cases z : b < 0
        · simp (disch := omega) only [e_bi, e_bind, e_let, e_tr, e_tl, cLm1, cLm2, cL0, cL1, cL2, cL3, cL4, cL5, cL6, cL7, cL8, cL9, cL10, cL11, cL12, cL13, cL14, cL15, cL16, cL17, cL18, cL19, cL20, cL21, cL22, cL23, cL24, cL25, cL29, cL30, cL31, cL32, cL36, cL48, cL50, cL51, cL52, cL64, cL99, cL100, cL700, cL1000, cL9999, cL10000, cI_add, cI_sub, cI_mul, cI_neg, cI_lt, cI_le, cI_eq, ne_eq, ifp, ifn, bI_p, bI_n, aZ_0, aZ_1, aZ_b, e_gdt, e_ifT, e_ifF, not_true_eq_false, not_false_eq_true, e_gd, isGarden_eq hp hM0, fail_eq]
          exact ok_someI ⟨gI_eq, rfl, T, K, L, B, H0.code⟩
        · simp (disch := omega) only [e_bi, e_bind, e_let, e_tr, e_tl, cLm1, cLm2, cL0, cL1, cL2, cL3, cL4, cL5, cL6, cL7, cL8, cL9, cL10, cL11, cL12, cL13, cL14, cL15, cL16, cL17, cL18, cL19, cL20, cL21, cL22, cL23, cL24, cL25, cL29, cL30, cL31, cL32, cL36, cL48, cL50, cL51, cL52, cL64, cL99, cL100, cL700, cL1000, cL9999, cL10000, cI_add, cI_sub, cI_mul, cI_neg, cI_lt, cI_le, cI_eq, ne_eq, ifp, ifn, bI_p, bI_n, aZ_0, aZ_1, aZ_b, e_gdt, e_ifT, e_ifF, not_true_eq_false, not_false_eq_true, e_gd, isGarden_eq hp hM0, fail_eq]
          exact ok_someI ⟨gI_eq, rfl, T, K, L, B, H0.code⟩
  · refine hp_step (fc := f_X11_best (cI a) (cI b) D) (fm := fun D => f_X12_best (cI a) (cI b) D) (P := lawP) (C := rel T K L B) none (fun D x h => h) ?_ (fun D H => ?_)
    · unfold f_X11_best
      simp (disch := omega) only [e_bi, e_bind, e_let, e_tr, e_tl, cLm1, cLm2, cL0, cL1, cL2, cL3, cL4, cL5, cL6, cL7, cL8, cL9, cL10, cL11, cL12, cL13, cL14, cL15, cL16, cL17, cL18, cL19, cL20, cL21, cL22, cL23, cL24, cL25, cL29, cL30, cL31, cL32, cL36, cL48, cL50, cL51, cL52, cL64, cL99, cL100, cL700, cL1000, cL9999, cL10000, cI_add, cI_sub, cI_mul, cI_neg, cI_lt, cI_le, cI_eq, ne_eq, ifp, ifn, bI_p, bI_n, aZ_0, aZ_1, aZ_b, e_gdt, e_ifT, e_ifF, not_true_eq_false, not_false_eq_true, e_gd, (needGarden_eq hp hC ha1 ha2).2 x1]
      exact ok_someI ⟨rfl, H⟩
    · have H0 := H.code (x := cI 0)
      have hM0 := H0.2.2.2.2.1
      unfold f_X12_best
      simp (disch := omega) only [e_bi, e_bind, e_let, e_tr, e_tl, cLm1, cLm2, cL0, cL1, cL2, cL3, cL4, cL5, cL6, cL7, cL8, cL9, cL10, cL11, cL12, cL13, cL14, cL15, cL16, cL17, cL18, cL19, cL20, cL21, cL22, cL23, cL24, cL25, cL29, cL30, cL31, cL32, cL36, cL48, cL50, cL51, cL52, cL64, cL99, cL100, cL700, cL1000, cL9999, cL10000, cI_add, cI_sub, cI_mul, cI_neg, cI_lt, cI_le, cI_eq, ne_eq, ifp, ifn, bI_p, bI_n, aZ_0, aZ_1, aZ_b, e_gdt, e_ifT, e_ifF, not_true_eq_false, not_false_eq_true, e_gd, isGarden_eq hp hM0, fail_eq]
      exact ok_someI ⟨gI_eq, rfl, T, K, L, B, H0.code⟩
end BS2
