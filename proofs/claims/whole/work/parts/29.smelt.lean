/-! smelt, mark -/
section SMT
theorem rel.code {T K : aT} {L : Int} {B : Nat → Int} {D : aD} {x : Int32} (H : rel T K L B D) : rel T K L B (pI D 88 2 x) := H.fr (fun k j _ b => fr_code k j b)
theorem rel.cls {T K : aT} {L : Int} {B : Nat → Int} {D D' : aD} (H : rel T K L B D) (e : ∀ k j : Nat, ¬ (57 ≤ k ∧ k < 88) → gI D' k j = gI D k j) : rel T K L B D' := H.fr (fun k j a _ => e k j a)
theorem rel.mod {T K : aT} {L : Int} {B : Nat → Int} {D D' : aD} (H : rel T K L B D) (e : ∀ k j : Nat, ¬ mScr k j → gI D' k j = gI D k j) : rel T K L B D' := H.fr (fun k j _ b => e k j b)
theorem isGarden_eq {D : aD} {T : aT} {a : Int} (hp : TOKp T) (hM : MT D T) (h1 : -2147483648 ≤ a) (h2 : a < 2147483648) : f_X12_isGarden (cI a) D = some (cI (bI (0 ≤ a ∧ a < T 0 3)), D) := by
  have hq := hp.1
  have hm := (MT.two hM).1
  unfold f_X12_isGarden
  simp (disch := omega) only [e_bi, e_bind, e_let, e_tr, e_tl, cLm1, cLm2, cL0, cL1, cL2, cL3, cL4, cL5, cL6, cL7, cL8, cL9, cL10, cL11, cL12, cL13, cL14, cL15, cL16, cL17, cL18, cL19, cL20, cL21, cL22, cL23, cL24, cL25, cL29, cL30, cL31, cL32, cL36, cL48, cL50, cL51, cL52, cL64, cL99, cL100, cL700, cL1000, cL9999, cL10000, cI_add, cI_sub, cI_mul, cI_neg, cI_lt, cI_le, cI_eq, ne_eq, ifp, ifn, bI_p, bI_n, aZ_0, aZ_1, aZ_b, e_gdt, e_ifT, e_ifF, not_true_eq_false, not_false_eq_true, e_gd, cX0, cX1, cX2, cX3, cX4, cX5, cX6, cX7, cX8, cX9, cX10, cX11, cX12, cX13, cX14, cX15, cX16, cX17, cX18, cX19, cX20, cX21, cX22, cX23, cX24, cX25, cX29, cX30, cX31, cX32, cX36, Int.reduceToNat, cI_inT, hm, isIn_eq]
  by_cases c : 0 ≤ a ∧ a < T 0 3
  · rw [bI_p c, bI_p (by omega)]
  · rw [bI_n c, bI_n (by omega)]
theorem needGarden_eq {D : aD} {T : aT} {a : Int} (hp : TOKp T) (hC : CP D 2 T) (h1 : -2147483648 ≤ a) (h2 : a < 2147483648) : (0 ≤ a ∧ a < T 0 3 → f_X11_needGarden (cI a) D = some (.inr (cI 0), D)) ∧ (¬ (0 ≤ a ∧ a < T 0 3) → f_X11_needGarden (cI a) D = some (.inl "java/util/NoSuchElementException", D)) := by
  have hq := hp.1
  obtain ⟨-, -, q3, -⟩ := CP.two hC
  unfold f_X11_needGarden
  exact ⟨fun x => by simp (disch := omega) only [e_bi, e_bind, e_let, e_tr, e_tl, cLm1, cLm2, cL0, cL1, cL2, cL3, cL4, cL5, cL6, cL7, cL8, cL9, cL10, cL11, cL12, cL13, cL14, cL15, cL16, cL17, cL18, cL19, cL20, cL21, cL22, cL23, cL24, cL25, cL29, cL30, cL31, cL32, cL36, cL48, cL50, cL51, cL52, cL64, cL99, cL100, cL700, cL1000, cL9999, cL10000, cI_add, cI_sub, cI_mul, cI_neg, cI_lt, cI_le, cI_eq, ne_eq, ifp, ifn, bI_p, bI_n, aZ_0, aZ_1, aZ_b, e_gdt, e_ifT, e_ifF, not_true_eq_false, not_false_eq_true, e_gd, q3, isBelow_eq, need_1], fun x => by simp (disch := omega) only [e_bi, e_bind, e_let, e_tr, e_tl, cLm1, cLm2, cL0, cL1, cL2, cL3, cL4, cL5, cL6, cL7, cL8, cL9, cL10, cL11, cL12, cL13, cL14, cL15, cL16, cL17, cL18, cL19, cL20, cL21, cL22, cL23, cL24, cL25, cL29, cL30, cL31, cL32, cL36, cL48, cL50, cL51, cL52, cL64, cL99, cL100, cL700, cL1000, cL9999, cL10000, cI_add, cI_sub, cI_mul, cI_neg, cI_lt, cI_le, cI_eq, ne_eq, ifp, ifn, bI_p, bI_n, aZ_0, aZ_1, aZ_b, e_gdt, e_ifT, e_ifF, not_true_eq_false, not_false_eq_true, e_gd, q3, isBelow_eq, need_0]⟩
theorem needWind_eq {D : aD} {a : Int} (h1 : -2147483648 ≤ a) (h2 : a < 2147483648) : (0 ≤ a ∧ a < 5 → f_X11_needWind (cI a) D = some (.inr (cI 0), D)) ∧ (¬ (0 ≤ a ∧ a < 5) → f_X11_needWind (cI a) D = some (.inl "java/util/NoSuchElementException", D)) := by
  unfold f_X11_needWind
  exact ⟨fun x => by simp (disch := omega) only [e_bi, e_bind, e_let, e_tr, e_tl, cLm1, cLm2, cL0, cL1, cL2, cL3, cL4, cL5, cL6, cL7, cL8, cL9, cL10, cL11, cL12, cL13, cL14, cL15, cL16, cL17, cL18, cL19, cL20, cL21, cL22, cL23, cL24, cL25, cL29, cL30, cL31, cL32, cL36, cL48, cL50, cL51, cL52, cL64, cL99, cL100, cL700, cL1000, cL9999, cL10000, cI_add, cI_sub, cI_mul, cI_neg, cI_lt, cI_le, cI_eq, ne_eq, ifp, ifn, bI_p, bI_n, aZ_0, aZ_1, aZ_b, e_gdt, e_ifT, e_ifF, not_true_eq_false, not_false_eq_true, e_gd, isBelow_eq, need_1], fun x => by simp (disch := omega) only [e_bi, e_bind, e_let, e_tr, e_tl, cLm1, cLm2, cL0, cL1, cL2, cL3, cL4, cL5, cL6, cL7, cL8, cL9, cL10, cL11, cL12, cL13, cL14, cL15, cL16, cL17, cL18, cL19, cL20, cL21, cL22, cL23, cL24, cL25, cL29, cL30, cL31, cL32, cL36, cL48, cL50, cL51, cL52, cL64, cL99, cL100, cL700, cL1000, cL9999, cL10000, cI_add, cI_sub, cI_mul, cI_neg, cI_lt, cI_le, cI_eq, ne_eq, ifp, ifn, bI_p, bI_n, aZ_0, aZ_1, aZ_b, e_gdt, e_ifT, e_ifF, not_true_eq_false, not_false_eq_true, e_gd, isBelow_eq, need_0]⟩
theorem step_11 {D : aD} {v1 v2 v3 v4 v5 : Int32} (h : lawP D) : Ok2 (f_law_11 v1 v2 v3 v4 v5 D) (fun r D => r = 1 ∧ lawP D) := by
  obtain ⟨T, K, L, B, H⟩ := h
  have ⟨hp, hn, hC, hN, hM, hR, _⟩ := H
  have hq := hp.1
  obtain ⟨a, rfl, ha1, ha2⟩ := cI_of v1
  obtain ⟨c, rfl, hc1, hc2⟩ := cI_of v2
  obtain ⟨h, rfl, hh1, hh2⟩ := cI_of v3
  obtain ⟨w, rfl, hw1, hw2⟩ := cI_of v4
  unfold f_law_11 f_L_mark
  by_cases x1 : 0 ≤ a ∧ a < T 0 3
  · by_cases x2 : airT T c h w
    · have x2' := x2
      unfold airT at x2'
      obtain ⟨y1, y2, y3, y4, y5, y6⟩ := x2'
      have ea : a = ((a.toNat : Nat) : Int) := by omega
      refine hp_step (fc := f_X11_mark (cI a) (cI c) (cI h) (cI w) D) (fm := fun D => f_X12_mark (cI a) (cI c) (cI h) (cI w) D) (P := lawP) (C := rel T K L B) (some (cI (mrN T (rawN T c h w) (ownN T c h w) a.toNat))) (fun D x h => h) ?_ (fun D H => ?_)
      · unfold f_X11_mark
        simp (disch := omega) only [e_bi, e_bind, e_let, e_tr, e_tl, cLm1, cLm2, cL0, cL1, cL2, cL3, cL4, cL5, cL6, cL7, cL8, cL9, cL10, cL11, cL12, cL13, cL14, cL15, cL16, cL17, cL18, cL19, cL20, cL21, cL22, cL23, cL24, cL25, cL29, cL30, cL31, cL32, cL36, cL48, cL50, cL51, cL52, cL64, cL99, cL100, cL700, cL1000, cL9999, cL10000, cI_add, cI_sub, cI_mul, cI_neg, cI_lt, cI_le, cI_eq, ne_eq, ifp, ifn, bI_p, bI_n, aZ_0, aZ_1, aZ_b, e_gdt, e_ifT, e_ifF, not_true_eq_false, not_false_eq_true, e_gd, (needGarden_eq hp hC ha1 ha2).1 x1, (needAir_eq hp hC hc1 hc2 hh1 hh2 hw1 hw2).1 x2]
        refine ok_bindI ((fillB_ok hp hn hC hN y1 y2 y3 y4 y5 y6).mono fun D1 q => ?_)
        obtain ⟨hC1, hN1⟩ := cF hp hC hN (D' := D1) (fun k j hk => q.2 k j (by omega) (by omega))
        have e1 := markOf_eq (g := a.toNat) hp hC1 q.1 (raw_b hp y1 y2) (by omega)
        rw [← ea] at e1
        rw [e1]
        exact ok_someI ⟨rfl, H.cls (fun k j a => q.2 k j (by omega) (by omega))⟩
      · have H0 := H.code (x := cI 0)
        have hM0 := H0.2.2.2.2.1
        have hMS := MS.of hM0 H0.2.2.2.2.2.1
        unfold f_X12_mark
        simp (disch := omega) only [e_bi, e_bind, e_let, e_tr, e_tl, cLm1, cLm2, cL0, cL1, cL2, cL3, cL4, cL5, cL6, cL7, cL8, cL9, cL10, cL11, cL12, cL13, cL14, cL15, cL16, cL17, cL18, cL19, cL20, cL21, cL22, cL23, cL24, cL25, cL29, cL30, cL31, cL32, cL36, cL48, cL50, cL51, cL52, cL64, cL99, cL100, cL700, cL1000, cL9999, cL10000, cI_add, cI_sub, cI_mul, cI_neg, cI_lt, cI_le, cI_eq, ne_eq, ifp, ifn, bI_p, bI_n, aZ_0, aZ_1, aZ_b, e_gdt, e_ifT, e_ifF, not_true_eq_false, not_false_eq_true, e_gd, isGarden_eq hp hM0, (isPlace_eq hp hM0 hc1 hc2 hh1 hh2 hw1 hw2).1 x2]
        refine ok_bindI ((tell_ok (TOKs.of hp hn) hMS y1 y2 y3 y4 y5 y6 (raw_b hp y1 y2)).mono fun D1 q => ?_)
        have hMS1 : MS D1 T := hMS.fr (fun k j a => q.2.1 k j (by omega)) (fun j a b => q.2.1 _ j (by omega))
        have e1 := mmarkOf_eq (g := a.toNat) (TOKs.of hp hn) hMS1 q.1 (raw_b hp y1 y2) (by omega)
        rw [← ea] at e1
        rw [e1]
        refine ok_someI ⟨⟨(q.2.1 _ _ (by omega)).trans gI_eq, rfl⟩, q.2.2, T, K, L, B, H0.mod (fun k j a => q.2.1 k j (by unfold mScr at a; omega))⟩
    · refine hp_step (fc := f_X11_mark (cI a) (cI c) (cI h) (cI w) D) (fm := fun D => f_X12_mark (cI a) (cI c) (cI h) (cI w) D) (P := lawP) (C := rel T K L B) none (fun D x h => h) ?_ (fun D H => ?_)
      · unfold f_X11_mark
        simp (disch := omega) only [e_bi, e_bind, e_let, e_tr, e_tl, cLm1, cLm2, cL0, cL1, cL2, cL3, cL4, cL5, cL6, cL7, cL8, cL9, cL10, cL11, cL12, cL13, cL14, cL15, cL16, cL17, cL18, cL19, cL20, cL21, cL22, cL23, cL24, cL25, cL29, cL30, cL31, cL32, cL36, cL48, cL50, cL51, cL52, cL64, cL99, cL100, cL700, cL1000, cL9999, cL10000, cI_add, cI_sub, cI_mul, cI_neg, cI_lt, cI_le, cI_eq, ne_eq, ifp, ifn, bI_p, bI_n, aZ_0, aZ_1, aZ_b, e_gdt, e_ifT, e_ifF, not_true_eq_false, not_false_eq_true, e_gd, (needGarden_eq hp hC ha1 ha2).1 x1, (needAir_eq hp hC hc1 hc2 hh1 hh2 hw1 hw2).2 x2]
        exact ok_someI ⟨rfl, H⟩
      · have H0 := H.code (x := cI 0)
        have hM0 := H0.2.2.2.2.1
        unfold f_X12_mark
        simp (disch := omega) only [e_bi, e_bind, e_let, e_tr, e_tl, cLm1, cLm2, cL0, cL1, cL2, cL3, cL4, cL5, cL6, cL7, cL8, cL9, cL10, cL11, cL12, cL13, cL14, cL15, cL16, cL17, cL18, cL19, cL20, cL21, cL22, cL23, cL24, cL25, cL29, cL30, cL31, cL32, cL36, cL48, cL50, cL51, cL52, cL64, cL99, cL100, cL700, cL1000, cL9999, cL10000, cI_add, cI_sub, cI_mul, cI_neg, cI_lt, cI_le, cI_eq, ne_eq, ifp, ifn, bI_p, bI_n, aZ_0, aZ_1, aZ_b, e_gdt, e_ifT, e_ifF, not_true_eq_false, not_false_eq_true, e_gd, isGarden_eq hp hM0, (isPlace_eq hp hM0 hc1 hc2 hh1 hh2 hw1 hw2).2 x2, fail_eq]
        exact ok_someI ⟨gI_eq, rfl, T, K, L, B, H0.code⟩
  · refine hp_step (fc := f_X11_mark (cI a) (cI c) (cI h) (cI w) D) (fm := fun D => f_X12_mark (cI a) (cI c) (cI h) (cI w) D) (P := lawP) (C := rel T K L B) none (fun D x h => h) ?_ (fun D H => ?_)
    · unfold f_X11_mark
      simp (disch := omega) only [e_bi, e_bind, e_let, e_tr, e_tl, cLm1, cLm2, cL0, cL1, cL2, cL3, cL4, cL5, cL6, cL7, cL8, cL9, cL10, cL11, cL12, cL13, cL14, cL15, cL16, cL17, cL18, cL19, cL20, cL21, cL22, cL23, cL24, cL25, cL29, cL30, cL31, cL32, cL36, cL48, cL50, cL51, cL52, cL64, cL99, cL100, cL700, cL1000, cL9999, cL10000, cI_add, cI_sub, cI_mul, cI_neg, cI_lt, cI_le, cI_eq, ne_eq, ifp, ifn, bI_p, bI_n, aZ_0, aZ_1, aZ_b, e_gdt, e_ifT, e_ifF, not_true_eq_false, not_false_eq_true, e_gd, (needGarden_eq hp hC ha1 ha2).2 x1]
      exact ok_someI ⟨rfl, H⟩
    · have H0 := H.code (x := cI 0)
      have hM0 := H0.2.2.2.2.1
      unfold f_X12_mark
      simp (disch := omega) only [e_bi, e_bind, e_let, e_tr, e_tl, cLm1, cLm2, cL0, cL1, cL2, cL3, cL4, cL5, cL6, cL7, cL8, cL9, cL10, cL11, cL12, cL13, cL14, cL15, cL16, cL17, cL18, cL19, cL20, cL21, cL22, cL23, cL24, cL25, cL29, cL30, cL31, cL32, cL36, cL48, cL50, cL51, cL52, cL64, cL99, cL100, cL700, cL1000, cL9999, cL10000, cI_add, cI_sub, cI_mul, cI_neg, cI_lt, cI_le, cI_eq, ne_eq, ifp, ifn, bI_p, bI_n, aZ_0, aZ_1, aZ_b, e_gdt, e_ifT, e_ifF, not_true_eq_false, not_false_eq_true, e_gd, isGarden_eq hp hM0, fail_eq]
      exact ok_someI ⟨gI_eq, rfl, T, K, L, B, H0.code⟩
theorem step_10 {D : aD} {v1 v2 v3 v4 v5 : Int32} (h : lawP D) : Ok2 (f_law_10 v1 v2 v3 v4 v5 D) (fun r D => r = 1 ∧ lawP D) := by
  obtain ⟨T, K, L, B, H⟩ := h
  have ⟨hp, hn, hC, hN, hM, hR, _⟩ := H
  have hq := hp.1
  obtain ⟨a, rfl, ha1, ha2⟩ := cI_of v1
  obtain ⟨c, rfl, hc1, hc2⟩ := cI_of v2
  obtain ⟨h, rfl, hh1, hh2⟩ := cI_of v3
  obtain ⟨w, rfl, hw1, hw2⟩ := cI_of v4
  obtain ⟨b, rfl, hb1, hb2⟩ := cI_of v5
  unfold f_law_10 f_L_smelt
  obtain ⟨-, -, q3, -⟩ := CP.two hC
  by_cases x : (0 ≤ a ∧ a < T 0 2) ∧ airT T c h w ∧ (0 ≤ b ∧ b < 3)
  · obtain ⟨x1, x2, x3⟩ := x
    have x2' := x2
    unfold airT at x2'
    obtain ⟨y1, y2, y3, y4, y5, y6⟩ := x2'
    have ea : a = ((a.toNat : Nat) : Int) := by omega
    have hB := raw_b (hour := h) (w := w) hp y1 y2
    have r1 := hB.1 a.toNat (by omega)
    have mk := mk_b (s := a.toNat) hp.2.2.2.2.2 (by omega) hB (by omega)
    have eb : b = 0 ∨ b = 1 ∨ b = 2 := by omega
    refine hp_step (fc := f_X11_smelt (cI a) (cI c) (cI h) (cI w) (cI b) D) (fm := fun D => f_X12_smelt (cI a) (cI c) (cI h) (cI w) (cI b) D) (P := lawP) (C := rel T K L B) (some (cI (if b = 0 then rawN T c h w a.toNat else if b = 1 then mkN T (rawN T c h w) a.toNat else ntN T (mkN T (rawN T c h w) a.toNat)))) (fun D x h => h) ?_ (fun D H => ?_)
    · unfold f_X11_smelt J_X11_smelt_27 J_X11_smelt_28
      simp (disch := omega) only [e_bi, e_bind, e_let, e_tr, e_tl, cLm1, cLm2, cL0, cL1, cL2, cL3, cL4, cL5, cL6, cL7, cL8, cL9, cL10, cL11, cL12, cL13, cL14, cL15, cL16, cL17, cL18, cL19, cL20, cL21, cL22, cL23, cL24, cL25, cL29, cL30, cL31, cL32, cL36, cL48, cL50, cL51, cL52, cL64, cL99, cL100, cL700, cL1000, cL9999, cL10000, cI_add, cI_sub, cI_mul, cI_neg, cI_lt, cI_le, cI_eq, ne_eq, ifp, ifn, bI_p, bI_n, aZ_0, aZ_1, aZ_b, e_gdt, e_ifT, e_ifF, not_true_eq_false, not_false_eq_true, e_gd, q3, isBelow_eq, need_1, (needAir_eq hp hC hc1 hc2 hh1 hh2 hw1 hw2).1 x2]
      refine ok_bindI ((fillB_ok hp hn hC hN y1 y2 y3 y4 y5 y6).mono fun D1 q => ?_)
      obtain ⟨hC1, hN1⟩ := cF hp hC hN (D' := D1) (fun k j hk => q.2 k j (by omega) (by omega))
      have e1 := masked_eq (s := a.toNat) hp hC1 q.1 hB (by omega)
      rw [← ea] at e1
      have e2 := noticed_eq (v := mkN T (rawN T c h w) a.toNat) hp hC1 (by omega) (by omega)
      have e3 := q.1.1 a.toNat (by omega)
      have H1 : rel T K L B D1 := H.cls (fun k j a => q.2 k j (by omega) (by omega))
      rcases eb with rfl | rfl | rfl
      · simp (disch := omega) only [e_bi, e_bind, e_let, e_tr, e_tl, cLm1, cLm2, cL0, cL1, cL2, cL3, cL4, cL5, cL6, cL7, cL8, cL9, cL10, cL11, cL12, cL13, cL14, cL15, cL16, cL17, cL18, cL19, cL20, cL21, cL22, cL23, cL24, cL25, cL29, cL30, cL31, cL32, cL36, cL48, cL50, cL51, cL52, cL64, cL99, cL100, cL700, cL1000, cL9999, cL10000, cI_add, cI_sub, cI_mul, cI_neg, cI_lt, cI_le, cI_eq, ne_eq, ifp, ifn, bI_p, bI_n, aZ_0, aZ_1, aZ_b, e_gdt, e_ifT, e_ifF, not_true_eq_false, not_false_eq_true, e_gd, cI_inT, cI_nat, e3]
        exact ok_someI ⟨rfl, H1⟩
      · simp (disch := omega) only [e_bi, e_bind, e_let, e_tr, e_tl, cLm1, cLm2, cL0, cL1, cL2, cL3, cL4, cL5, cL6, cL7, cL8, cL9, cL10, cL11, cL12, cL13, cL14, cL15, cL16, cL17, cL18, cL19, cL20, cL21, cL22, cL23, cL24, cL25, cL29, cL30, cL31, cL32, cL36, cL48, cL50, cL51, cL52, cL64, cL99, cL100, cL700, cL1000, cL9999, cL10000, cI_add, cI_sub, cI_mul, cI_neg, cI_lt, cI_le, cI_eq, ne_eq, ifp, ifn, bI_p, bI_n, aZ_0, aZ_1, aZ_b, e_gdt, e_ifT, e_ifF, not_true_eq_false, not_false_eq_true, e_gd, e1]
        exact ok_someI ⟨rfl, H1⟩
      · simp (disch := omega) only [e_bi, e_bind, e_let, e_tr, e_tl, cLm1, cLm2, cL0, cL1, cL2, cL3, cL4, cL5, cL6, cL7, cL8, cL9, cL10, cL11, cL12, cL13, cL14, cL15, cL16, cL17, cL18, cL19, cL20, cL21, cL22, cL23, cL24, cL25, cL29, cL30, cL31, cL32, cL36, cL48, cL50, cL51, cL52, cL64, cL99, cL100, cL700, cL1000, cL9999, cL10000, cI_add, cI_sub, cI_mul, cI_neg, cI_lt, cI_le, cI_eq, ne_eq, ifp, ifn, bI_p, bI_n, aZ_0, aZ_1, aZ_b, e_gdt, e_ifT, e_ifF, not_true_eq_false, not_false_eq_true, e_gd, e1, e2]
        exact ok_someI ⟨rfl, H1⟩
    · have H0 := H.code (x := cI 0)
      have hM0 := H0.2.2.2.2.1
      have hMS := MS.of hM0 H0.2.2.2.2.2.1
      unfold f_X12_smelt
      simp (disch := omega) only [e_bi, e_bind, e_let, e_tr, e_tl, cLm1, cLm2, cL0, cL1, cL2, cL3, cL4, cL5, cL6, cL7, cL8, cL9, cL10, cL11, cL12, cL13, cL14, cL15, cL16, cL17, cL18, cL19, cL20, cL21, cL22, cL23, cL24, cL25, cL29, cL30, cL31, cL32, cL36, cL48, cL50, cL51, cL52, cL64, cL99, cL100, cL700, cL1000, cL9999, cL10000, cI_add, cI_sub, cI_mul, cI_neg, cI_lt, cI_le, cI_eq, ne_eq, ifp, ifn, bI_p, bI_n, aZ_0, aZ_1, aZ_b, e_gdt, e_ifT, e_ifF, not_true_eq_false, not_false_eq_true, e_gd, isSort_eq hp hM0, (isPlace_eq hp hM0 hc1 hc2 hh1 hh2 hw1 hw2).1 x2, isIn_eq]
      refine ok_bindI ((tell_ok (TOKs.of hp hn) hMS y1 y2 y3 y4 y5 y6 hB).mono fun D1 q => ?_)
      have e1 := q.1.1 a.toNat (by omega)
      have e2 := q.1.2.2 a.toNat (by omega)
      have H1 : rel T K L B D1 := H0.mod (fun k j a => q.2.1 k j (by unfold mScr at a; omega))
      have ec : gI D1 88 2 = cI 0 := (q.2.1 _ _ (by omega)).trans gI_eq
      rcases eb with rfl | rfl | rfl
      · simp (disch := omega) only [e_bi, e_bind, e_let, e_tr, e_tl, cLm1, cLm2, cL0, cL1, cL2, cL3, cL4, cL5, cL6, cL7, cL8, cL9, cL10, cL11, cL12, cL13, cL14, cL15, cL16, cL17, cL18, cL19, cL20, cL21, cL22, cL23, cL24, cL25, cL29, cL30, cL31, cL32, cL36, cL48, cL50, cL51, cL52, cL64, cL99, cL100, cL700, cL1000, cL9999, cL10000, cI_add, cI_sub, cI_mul, cI_neg, cI_lt, cI_le, cI_eq, ne_eq, ifp, ifn, bI_p, bI_n, aZ_0, aZ_1, aZ_b, e_gdt, e_ifT, e_ifF, not_true_eq_false, not_false_eq_true, e_gd, cI_inT, cI_nat, e1]
        exact ok_someI ⟨⟨ec, rfl⟩, q.2.2, T, K, L, B, H1⟩
      · simp (disch := omega) only [e_bi, e_bind, e_let, e_tr, e_tl, cLm1, cLm2, cL0, cL1, cL2, cL3, cL4, cL5, cL6, cL7, cL8, cL9, cL10, cL11, cL12, cL13, cL14, cL15, cL16, cL17, cL18, cL19, cL20, cL21, cL22, cL23, cL24, cL25, cL29, cL30, cL31, cL32, cL36, cL48, cL50, cL51, cL52, cL64, cL99, cL100, cL700, cL1000, cL9999, cL10000, cI_add, cI_sub, cI_mul, cI_neg, cI_lt, cI_le, cI_eq, ne_eq, ifp, ifn, bI_p, bI_n, aZ_0, aZ_1, aZ_b, e_gdt, e_ifT, e_ifF, not_true_eq_false, not_false_eq_true, e_gd, cI_inT, cI_nat, e2.1]
        exact ok_someI ⟨⟨ec, rfl⟩, q.2.2, T, K, L, B, H1⟩
      · simp (disch := omega) only [e_bi, e_bind, e_let, e_tr, e_tl, cLm1, cLm2, cL0, cL1, cL2, cL3, cL4, cL5, cL6, cL7, cL8, cL9, cL10, cL11, cL12, cL13, cL14, cL15, cL16, cL17, cL18, cL19, cL20, cL21, cL22, cL23, cL24, cL25, cL29, cL30, cL31, cL32, cL36, cL48, cL50, cL51, cL52, cL64, cL99, cL100, cL700, cL1000, cL9999, cL10000, cI_add, cI_sub, cI_mul, cI_neg, cI_lt, cI_le, cI_eq, ne_eq, ifp, ifn, bI_p, bI_n, aZ_0, aZ_1, aZ_b, e_gdt, e_ifT, e_ifF, not_true_eq_false, not_false_eq_true, e_gd, cI_inT, cI_nat, e2.2]
        exact ok_someI ⟨⟨ec, rfl⟩, q.2.2, T, K, L, B, H1⟩
  · refine hp_step (fc := f_X11_smelt (cI a) (cI c) (cI h) (cI w) (cI b) D) (fm := fun D => f_X12_smelt (cI a) (cI c) (cI h) (cI w) (cI b) D) (P := lawP) (C := rel T K L B) none (fun D x h => h) ?_ (fun D H => ?_)
    · unfold f_X11_smelt J_X11_smelt_27 J_X11_smelt_28
      by_cases x1 : 0 ≤ a ∧ a < T 0 2
      · by_cases x3 : 0 ≤ b ∧ b < 3
        · have x2 : ¬ airT T c h w := fun z => x ⟨x1, z, x3⟩
          simp (disch := omega) only [e_bi, e_bind, e_let, e_tr, e_tl, cLm1, cLm2, cL0, cL1, cL2, cL3, cL4, cL5, cL6, cL7, cL8, cL9, cL10, cL11, cL12, cL13, cL14, cL15, cL16, cL17, cL18, cL19, cL20, cL21, cL22, cL23, cL24, cL25, cL29, cL30, cL31, cL32, cL36, cL48, cL50, cL51, cL52, cL64, cL99, cL100, cL700, cL1000, cL9999, cL10000, cI_add, cI_sub, cI_mul, cI_neg, cI_lt, cI_le, cI_eq, ne_eq, ifp, ifn, bI_p, bI_n, aZ_0, aZ_1, aZ_b, e_gdt, e_ifT, e_ifF, not_true_eq_false, not_false_eq_true, e_gd, q3, isBelow_eq, need_1, (needAir_eq hp hC hc1 hc2 hh1 hh2 hw1 hw2).2 x2]
          exact ok_someI ⟨rfl, H⟩
        · simp (disch := omega) only [e_bi, e_bind, e_let, e_tr, e_tl, cLm1, cLm2, cL0, cL1, cL2, cL3, cL4, cL5, cL6, cL7, cL8, cL9, cL10, cL11, cL12, cL13, cL14, cL15, cL16, cL17, cL18, cL19, cL20, cL21, cL22, cL23, cL24, cL25, cL29, cL30, cL31, cL32, cL36, cL48, cL50, cL51, cL52, cL64, cL99, cL100, cL700, cL1000, cL9999, cL10000, cI_add, cI_sub, cI_mul, cI_neg, cI_lt, cI_le, cI_eq, ne_eq, ifp, ifn, bI_p, bI_n, aZ_0, aZ_1, aZ_b, e_gdt, e_ifT, e_ifF, not_true_eq_false, not_false_eq_true, e_gd, q3, isBelow_eq, need_0]
          exact ok_someI ⟨rfl, H⟩
      · simp (disch := omega) only [e_bi, e_bind, e_let, e_tr, e_tl, cLm1, cLm2, cL0, cL1, cL2, cL3, cL4, cL5, cL6, cL7, cL8, cL9, cL10, cL11, cL12, cL13, cL14, cL15, cL16, cL17, cL18, cL19, cL20, cL21, cL22, cL23, cL24, cL25, cL29, cL30, cL31, cL32, cL36, cL48, cL50, cL51, cL52, cL64, cL99, cL100, cL700, cL1000, cL9999, cL10000, cI_add, cI_sub, cI_mul, cI_neg, cI_lt, cI_le, cI_eq, ne_eq, ifp, ifn, bI_p, bI_n, aZ_0, aZ_1, aZ_b, e_gdt, e_ifT, e_ifF, not_true_eq_false, not_false_eq_true, e_gd, q3, isBelow_eq, need_0]
        exact ok_someI ⟨rfl, H⟩
    · have H0 := H.code (x := cI 0)
      have hM0 := H0.2.2.2.2.1
      unfold f_X12_smelt
      by_cases x1 : 0 ≤ a ∧ a < T 0 2
      · by_cases x2 : airT T c h w
        · have x3 : ¬ (0 ≤ b ∧ b < 3) := fun z => x ⟨x1, x2, z⟩
          simp (disch := omega) only [e_bi, e_bind, e_let, e_tr, e_tl, cLm1, cLm2, cL0, cL1, cL2, cL3, cL4, cL5, cL6, cL7, cL8, cL9, cL10, cL11, cL12, cL13, cL14, cL15, cL16, cL17, cL18, cL19, cL20, cL21, cL22, cL23, cL24, cL25, cL29, cL30, cL31, cL32, cL36, cL48, cL50, cL51, cL52, cL64, cL99, cL100, cL700, cL1000, cL9999, cL10000, cI_add, cI_sub, cI_mul, cI_neg, cI_lt, cI_le, cI_eq, ne_eq, ifp, ifn, bI_p, bI_n, aZ_0, aZ_1, aZ_b, e_gdt, e_ifT, e_ifF, not_true_eq_false, not_false_eq_true, e_gd, isSort_eq hp hM0, (isPlace_eq hp hM0 hc1 hc2 hh1 hh2 hw1 hw2).1 x2, isIn_eq, fail_eq]
          exact ok_someI ⟨gI_eq, rfl, T, K, L, B, H0.code⟩
        · simp (disch := omega) only [e_bi, e_bind, e_let, e_tr, e_tl, cLm1, cLm2, cL0, cL1, cL2, cL3, cL4, cL5, cL6, cL7, cL8, cL9, cL10, cL11, cL12, cL13, cL14, cL15, cL16, cL17, cL18, cL19, cL20, cL21, cL22, cL23, cL24, cL25, cL29, cL30, cL31, cL32, cL36, cL48, cL50, cL51, cL52, cL64, cL99, cL100, cL700, cL1000, cL9999, cL10000, cI_add, cI_sub, cI_mul, cI_neg, cI_lt, cI_le, cI_eq, ne_eq, ifp, ifn, bI_p, bI_n, aZ_0, aZ_1, aZ_b, e_gdt, e_ifT, e_ifF, not_true_eq_false, not_false_eq_true, e_gd, isSort_eq hp hM0, (isPlace_eq hp hM0 hc1 hc2 hh1 hh2 hw1 hw2).2 x2, fail_eq]
          exact ok_someI ⟨gI_eq, rfl, T, K, L, B, H0.code⟩
      · simp (disch := omega) only [e_bi, e_bind, e_let, e_tr, e_tl, cLm1, cLm2, cL0, cL1, cL2, cL3, cL4, cL5, cL6, cL7, cL8, cL9, cL10, cL11, cL12, cL13, cL14, cL15, cL16, cL17, cL18, cL19, cL20, cL21, cL22, cL23, cL24, cL25, cL29, cL30, cL31, cL32, cL36, cL48, cL50, cL51, cL52, cL64, cL99, cL100, cL700, cL1000, cL9999, cL10000, cI_add, cI_sub, cI_mul, cI_neg, cI_lt, cI_le, cI_eq, ne_eq, ifp, ifn, bI_p, bI_n, aZ_0, aZ_1, aZ_b, e_gdt, e_ifT, e_ifF, not_true_eq_false, not_false_eq_true, e_gd, isSort_eq hp hM0, fail_eq]
        exact ok_someI ⟨gI_eq, rfl, T, K, L, B, H0.code⟩
end SMT
