/-! the fairest order: answers (19) -/
section FA2
def fsL (T : aT) : Int × List Nat := (prL (T 0 5).toNat (T 0 5).toNat []).foldl (fsT T) (-1, [])
def frW (T : aT) (b : Int) : Int := if T 0 5 = 0 ∨ T 0 3 = 0 ∨ allN T = 0 then -1 else if b = 0 then orI (lfN (fsL T).2) (T 0 5).toNat else (fsL T).1
theorem fs_ne {T : aT} {n : Nat} (hT : TOKs T) (h3 : 0 < T 0 3) (hn : (n : Int) = T 0 5) : ∀ (L : List (List Nat)) (st : Int × List Nat), (∀ l : List Nat, l ∈ L → inL n l) → (-1 ≤ st.1 ∧ st.1 ≤ 2527200) → (L ≠ [] ∨ 0 ≤ st.1) → 0 ≤ (L.foldl (fsT T) st).1 ∧ inL n (L.foldl (fsT T) st).2 ∨ (L.foldl (fsT T) st) = st
  | [], st, _, _, _ => Or.inr rfl
  | l :: L, st, hin, hb, _ => by
    have fb := fs_b (st := st) hT h3 hn (hin l (by simp)) hb
    have hl := hin l (by simp)
    rcases fs_ne hT h3 hn L (fsT T st l) (fun l' h' => hin l' (by simp [h'])) (by omega) (Or.inr fb.1) with h | h
    · exact Or.inl h
    · have e : (l :: L).foldl (fsT T) st = fsT T st l := h
      by_cases c : st.1 = -1 ∨ gdN T (lfN l) 5 < st.1
      · rw [e]
        refine Or.inl ⟨fb.1, ?_⟩
        unfold fsT
        rw [if_pos c]
        exact hl
      · refine Or.inr (e.trans ?_)
        unfold fsT
        rw [if_neg c]
theorem all_in {n : Nat} (h0 : 0 < n) (h6 : n < 6) : ∀ l : List Nat, l ∈ prL n n [] → inL n l := by
  intro l hl
  have h := List.all_eq_true.mp (ch_all n h6 h0).2.2.2 l hl
  rw [Bool.and_eq_true, beq_iff_eq, List.all_eq_true] at h
  exact ⟨h.1, fun v hv => by have := h.2 v hv; simpa [Nat.blt_eq] using this⟩
theorem fsL_ok {T : aT} (hT : TOKs T) (h5 : 0 < T 0 5) (h3 : 0 < T 0 3) : (fsL T).1 ≠ -1 ∧ (∀ i : Nat, i < (T 0 5).toNat → 0 ≤ lfN (fsL T).2 i ∧ lfN (fsL T).2 i < 5) := by
  have hq := hT.1
  obtain ⟨a1, a2, a3, a4⟩ := ch_all (T 0 5).toNat (by omega) (by omega)
  have ne : prL (T 0 5).toNat (T 0 5).toNat [] ≠ [] := fun z => by rw [z] at a3; cases a3
  have h := fs_ne (n := (T 0 5).toNat) hT h3 (by omega) (prL (T 0 5).toNat (T 0 5).toNat []) (-1, []) (all_in (by omega) (by omega)) ⟨by show (-1 : Int) ≤ -1; omega, by show (-1 : Int) ≤ 2527200; omega⟩ (Or.inl ne)
  rcases h with ⟨h, h2⟩ | h
  · have h' : 0 ≤ (fsL T).1 := h
    have h2' : inL (T 0 5).toNat (fsL T).2 := h2
    refine ⟨by omega, fun i hi => ?_⟩
    have := lf_b h2' hi
    omega
  · exfalso
    match hL : prL (T 0 5).toNat (T 0 5).toNat [], ne with
    | l :: L, _ =>
      rw [hL] at h
      have hin := all_in (n := (T 0 5).toNat) (by omega) (by omega)
      rw [hL] at hin
      have fb := fs_b (st := (-1, [])) hT h3 (show (((T 0 5).toNat : Nat) : Int) = T 0 5 by omega) (hin l (by simp)) ⟨by show (-1 : Int) ≤ -1; omega, by show (-1 : Int) ≤ 2527200; omega⟩
      have k := fs_ne (n := (T 0 5).toNat) hT h3 (by omega) L (fsT T (-1, []) l) (fun l' h' => hin l' (by simp [h'])) (by omega) (Or.inr fb.1)
      have e : (l :: L).foldl (fsT T) (-1, []) = L.foldl (fsT T) (fsT T (-1, []) l) := rfl
      rw [e] at h
      rcases k with ⟨k, -⟩ | k
      · rw [h] at k
        exact absurd k (by show ¬ ((0 : Int) ≤ -1); omega)
      · rw [k] at h
        rw [h] at fb
        exact absurd fb.1 (by show ¬ ((0 : Int) ≤ -1); omega)
theorem step_19 {D : aD} {v1 v2 v3 v4 v5 : Int32} (h : lawP D) : Ok2 (f_law_19 v1 v2 v3 v4 v5 D) (fun r D => r = 1 ∧ lawP D) := by
  obtain ⟨T, K, L, B, H⟩ := h
  have ⟨hp, hn, hC, hN, hM, hR, _⟩ := H
  have hq := hp.1
  have hT := TOKs.of hp hn
  have ab := all_b hp.2.1
  obtain ⟨b, rfl, hb1, hb2⟩ := cI_of v1
  unfold f_law_19 f_L_fair
  by_cases x3 : 0 ≤ b ∧ b < 2
  · have eb : b = 0 ∨ b = 1 := by omega
    refine hp_step (fc := f_X11_fair (cI b) D) (fm := fun D => f_X12_fair (cI b) D) (P := lawP) (C := rel T K L B) (some (cI (frW T b))) (fun D x h => h) ?_ (fun D H => ?_)
    · obtain ⟨-, -, p3, -⟩ := CP.two hC
      have p5 := p3 5 (by omega) (by omega)
      have pg := p3 3 (by omega) (by omega)
      unfold f_X11_fair
      by_cases z : T 0 5 = 0 ∨ T 0 3 = 0 ∨ allN T = 0
      · have w : frW T b = -1 := if_pos z
        rw [w]
        by_cases z1 : T 0 5 = 0
        · simp (disch := omega) only [e_bi, e_bind, e_let, e_tr, e_tl, cLm1, cLm2, cL0, cL1, cL2, cL3, cL4, cL5, cL6, cL7, cL8, cL9, cL10, cL11, cL12, cL13, cL14, cL15, cL16, cL17, cL18, cL19, cL20, cL21, cL22, cL23, cL24, cL25, cL29, cL30, cL31, cL32, cL36, cL48, cL50, cL51, cL52, cL64, cL99, cL100, cL700, cL1000, cL9999, cL10000, cI_add, cI_sub, cI_mul, cI_neg, cI_lt, cI_le, cI_eq, ne_eq, ifp, ifn, bI_p, bI_n, aZ_0, aZ_1, aZ_b, e_gdt, e_ifT, e_ifF, not_true_eq_false, not_false_eq_true, e_gd, isBelow_eq, need_1, p5]
          exact ok_someI ⟨rfl, H⟩
        · by_cases z2 : T 0 3 = 0
          · simp (disch := omega) only [e_bi, e_bind, e_let, e_tr, e_tl, cLm1, cLm2, cL0, cL1, cL2, cL3, cL4, cL5, cL6, cL7, cL8, cL9, cL10, cL11, cL12, cL13, cL14, cL15, cL16, cL17, cL18, cL19, cL20, cL21, cL22, cL23, cL24, cL25, cL29, cL30, cL31, cL32, cL36, cL48, cL50, cL51, cL52, cL64, cL99, cL100, cL700, cL1000, cL9999, cL10000, cI_add, cI_sub, cI_mul, cI_neg, cI_lt, cI_le, cI_eq, ne_eq, ifp, ifn, bI_p, bI_n, aZ_0, aZ_1, aZ_b, e_gdt, e_ifT, e_ifF, not_true_eq_false, not_false_eq_true, e_gd, isBelow_eq, need_1, p5, pg]
            exact ok_someI ⟨rfl, H⟩
          · simp (disch := omega) only [e_bi, e_bind, e_let, e_tr, e_tl, cLm1, cLm2, cL0, cL1, cL2, cL3, cL4, cL5, cL6, cL7, cL8, cL9, cL10, cL11, cL12, cL13, cL14, cL15, cL16, cL17, cL18, cL19, cL20, cL21, cL22, cL23, cL24, cL25, cL29, cL30, cL31, cL32, cL36, cL48, cL50, cL51, cL52, cL64, cL99, cL100, cL700, cL1000, cL9999, cL10000, cI_add, cI_sub, cI_mul, cI_neg, cI_lt, cI_le, cI_eq, ne_eq, ifp, ifn, bI_p, bI_n, aZ_0, aZ_1, aZ_b, e_gdt, e_ifT, e_ifF, not_true_eq_false, not_false_eq_true, e_gd, isBelow_eq, need_1, p5, pg, callW_eq hp hC]
            exact ok_someI ⟨rfl, H⟩
      · have w : frW T b = if b = 0 then orI (lfN (fsL T).2) (T 0 5).toNat else (fsL T).1 := if_neg z
        have h3 : 0 < T 0 3 := by omega
        have h5 : 0 < T 0 5 := by omega
        obtain ⟨a1, a2, a3, a4⟩ := ch_all (T 0 5).toNat (by omega) (by omega)
        obtain ⟨s1, s2⟩ := fsL_ok hT h5 h3
        rw [w]
        simp (disch := omega) only [e_bi, e_bind, e_let, e_tr, e_tl, cLm1, cLm2, cL0, cL1, cL2, cL3, cL4, cL5, cL6, cL7, cL8, cL9, cL10, cL11, cL12, cL13, cL14, cL15, cL16, cL17, cL18, cL19, cL20, cL21, cL22, cL23, cL24, cL25, cL29, cL30, cL31, cL32, cL36, cL48, cL50, cL51, cL52, cL64, cL99, cL100, cL700, cL1000, cL9999, cL10000, cI_add, cI_sub, cI_mul, cI_neg, cI_lt, cI_le, cI_eq, ne_eq, ifp, ifn, bI_p, bI_n, aZ_0, aZ_1, aZ_b, e_gdt, e_ifT, e_ifF, not_true_eq_false, not_false_eq_true, e_gd, isBelow_eq, need_1, p5, pg, callW_eq hp hC]
        unfold f_X2_search
        have body : Ok (((f_X2_markAll D).bind (fun D_1 => J_X2_search_6 0 D_1))) (fun r => r.1 = cI (fsL T).1 ∧ (∀ i : Nat, i < (T 0 5).toNat → gI r.2 76 i = cI (lfN (fsL T).2 i)) ∧ rel T K L B r.2) := by
          refine ok_bindI ((markAll_ok hp hn hC hN).mono fun D1 q => ?_)
          obtain ⟨q1, q2⟩ := q
          unfold J_X2_search_6
          refine ok_bindI (ok_lp (fun i t => t.1 = cI (i : Int) ∧ (∀ j : Nat, j < i → gI t.2 75 j = cI (j : Int)) ∧ ∀ k j : Nat, k ≠ 75 → gI t.2 k j = gI D1 k j) (T 0 5).toNat (by omega) ⟨rfl, fun j hj => absurd hj (by omega), fun _ _ _ => rfl⟩ ?_)
          rintro i ⟨x, D2⟩ hi ⟨rfl, m1, m2⟩
          show Ok (B_X2_search_6 (cI (i : Int)) D2) _
          have fr2 : ∀ k j : Nat, ¬ (57 ≤ k ∧ k < 88) → gI D2 k j = gI D k j := fun k j a => (m2 k j (by omega)).trans (q2 k j (by omega))
          obtain ⟨hC2, hN2⟩ := cF hp hC hN (D' := D2) (fun k j hk => fr2 k j (by omega))
          have c5 : gI D2 2 5 = cI (T 0 5) := (CP.two hC2).2.2.1 5 (by omega) (by omega)
          have e : ((i : Int)).toNat = i := by omega
          unfold B_X2_search_6
          by_cases c : (i : Int) < T 0 5
          · simp (disch := omega) only [e_bi, e_bind, e_let, e_tr, e_tl, cLm1, cLm2, cL0, cL1, cL2, cL3, cL4, cL5, cL6, cL7, cL8, cL9, cL10, cL11, cL12, cL13, cL14, cL15, cL16, cL17, cL18, cL19, cL20, cL21, cL22, cL23, cL24, cL25, cL29, cL30, cL31, cL32, cL36, cL48, cL50, cL51, cL52, cL64, cL99, cL100, cL700, cL1000, cL9999, cL10000, cI_add, cI_sub, cI_mul, cI_neg, cI_lt, cI_le, cI_eq, ne_eq, ifp, ifn, bI_p, bI_n, aZ_0, aZ_1, aZ_b, e_gdt, e_ifT, e_ifF, not_true_eq_false, not_false_eq_true, e_gd, c5, cI_inT, cI_nat, e]
            refine ok_someI (Or.inl ⟨_, rfl, by omega, rfl, fun j hj => ?_, fun k j a => (gI_fr (by omega)).trans (m2 k j a)⟩)
            show gI (pI D2 75 i (cI (i : Int))) 75 j = _
            by_cases y : j = i
            · subst y; exact gI_eq
            · rw [gI_fr (by omega)]; exact m1 j (by omega)
          · simp (disch := omega) only [e_bi, e_bind, e_let, e_tr, e_tl, cLm1, cLm2, cL0, cL1, cL2, cL3, cL4, cL5, cL6, cL7, cL8, cL9, cL10, cL11, cL12, cL13, cL14, cL15, cL16, cL17, cL18, cL19, cL20, cL21, cL22, cL23, cL24, cL25, cL29, cL30, cL31, cL32, cL36, cL48, cL50, cL51, cL52, cL64, cL99, cL100, cL700, cL1000, cL9999, cL10000, cI_add, cI_sub, cI_mul, cI_neg, cI_lt, cI_le, cI_eq, ne_eq, ifp, ifn, bI_p, bI_n, aZ_0, aZ_1, aZ_b, e_gdt, e_ifT, e_ifF, not_true_eq_false, not_false_eq_true, e_gd, c5]
            refine ok_someI (Or.inr ⟨_, rfl, ?_⟩)
            obtain rfl : i = (T 0 5).toNat := by omega
            unfold J_X2_search_30 J_X2_search_36
            have hMD : mkD D2 T (fun _ _ _ => True) := fun w i g d a b c e f h => (m2 _ _ (by omega)).trans (q1 w i g d a b c e f h)
            refine ok_bindI (Ok.mono (searchOn (L := prL (T 0 5).toNat (T 0 5).toNat []) hp hn hC2 hN2 hMD h3 (show (((T 0 5).toNat : Nat) : Int) = T 0 5 by omega) (by omega) a1 a2 (all_in (by omega) (by omega)) (fun l hl i hi => ?_)) fun r q => ?_)
            · rw [a3] at hl
              cases hl
              rw [m1 i hi]
              unfold lfN
              rw [List.getD_eq_getElem?_getD, List.getElem?_range hi]
              rfl
            · obtain ⟨k1, -, k2, k3⟩ := q
              unfold J_X2_search_91
              exact ok_someI ⟨k1, k2 s1, H.cls (fun k j a => (k3 k j (by omega) (by omega)).trans (fr2 k j a))⟩
        refine ok_biI (Ok.mono body fun r q => ?_)
        obtain ⟨y, D2⟩ := r
        obtain ⟨k1, k2, k3⟩ := q
        obtain rfl : y = _ := k1
        have k3' : rel T K L B D2 := k3
        have c5 : gI D2 2 5 = cI (((T 0 5).toNat : Nat) : Int) := by rw [(CP.two k3'.2.2.1).2.2.1 5 (by omega) (by omega)]; congr 1; omega
        have oe := orderOf_eq (D := D2) (a := 76) (q := (T 0 5).toNat) (o := lfN (fsL T).2) (by omega) (fun i hi => ⟨k2 i hi, by have := s2 i hi; omega⟩)
        dsimp only
        rcases eb with rfl | rfl
        · rw [if_neg (show ¬ (¬ (0 : Int) = 0) from fun z => z rfl), c5, oe, e_bi, if_pos (show (0 : Int) = 0 from rfl)]
          exact ok_someI ⟨rfl, k3'⟩
        · rw [if_pos (show ¬ (1 : Int) = 0 by omega), if_neg (show ¬ (1 : Int) = 0 by omega)]
          exact ok_someI ⟨rfl, k3'⟩
    · have H0 := H.code (x := cI 0)
      have hM0 := H0.2.2.2.2.1
      have hMS := MS.of hM0 H0.2.2.2.2.2.1
      have m5 := hMS.1 5 (by omega) (by omega)
      have m3 := hMS.1 3 (by omega) (by omega)
      unfold f_X12_fair
      by_cases z : T 0 5 = 0 ∨ T 0 3 = 0 ∨ allN T = 0
      · have w : frW T b = -1 := if_pos z
        rw [w]
        by_cases z1 : T 0 5 = 0
        · simp (disch := omega) only [e_bi, e_bind, e_let, e_tr, e_tl, cLm1, cLm2, cL0, cL1, cL2, cL3, cL4, cL5, cL6, cL7, cL8, cL9, cL10, cL11, cL12, cL13, cL14, cL15, cL16, cL17, cL18, cL19, cL20, cL21, cL22, cL23, cL24, cL25, cL29, cL30, cL31, cL32, cL36, cL48, cL50, cL51, cL52, cL64, cL99, cL100, cL700, cL1000, cL9999, cL10000, cI_add, cI_sub, cI_mul, cI_neg, cI_lt, cI_le, cI_eq, ne_eq, ifp, ifn, bI_p, bI_n, aZ_0, aZ_1, aZ_b, e_gdt, e_ifT, e_ifF, not_true_eq_false, not_false_eq_true, e_gd, cX0, cX1, cX2, cX3, cX4, cX5, cX6, cX7, cX8, cX9, cX10, cX11, cX12, cX13, cX14, cX15, cX16, cX17, cX18, cX19, cX20, cX21, cX22, cX23, cX24, cX25, cX29, cX30, cX31, cX32, cX36, Int.reduceToNat, cI_inT, m5]
          exact ok_someI ⟨⟨gI_eq, rfl⟩, rfl, T, K, L, B, H0⟩
        · by_cases z2 : T 0 3 = 0
          · simp (disch := omega) only [e_bi, e_bind, e_let, e_tr, e_tl, cLm1, cLm2, cL0, cL1, cL2, cL3, cL4, cL5, cL6, cL7, cL8, cL9, cL10, cL11, cL12, cL13, cL14, cL15, cL16, cL17, cL18, cL19, cL20, cL21, cL22, cL23, cL24, cL25, cL29, cL30, cL31, cL32, cL36, cL48, cL50, cL51, cL52, cL64, cL99, cL100, cL700, cL1000, cL9999, cL10000, cI_add, cI_sub, cI_mul, cI_neg, cI_lt, cI_le, cI_eq, ne_eq, ifp, ifn, bI_p, bI_n, aZ_0, aZ_1, aZ_b, e_gdt, e_ifT, e_ifF, not_true_eq_false, not_false_eq_true, e_gd, cX0, cX1, cX2, cX3, cX4, cX5, cX6, cX7, cX8, cX9, cX10, cX11, cX12, cX13, cX14, cX15, cX16, cX17, cX18, cX19, cX20, cX21, cX22, cX23, cX24, cX25, cX29, cX30, cX31, cX32, cX36, Int.reduceToNat, cI_inT, m5, m3]
            exact ok_someI ⟨⟨gI_eq, rfl⟩, rfl, T, K, L, B, H0⟩
          · simp (disch := omega) only [e_bi, e_bind, e_let, e_tr, e_tl, cLm1, cLm2, cL0, cL1, cL2, cL3, cL4, cL5, cL6, cL7, cL8, cL9, cL10, cL11, cL12, cL13, cL14, cL15, cL16, cL17, cL18, cL19, cL20, cL21, cL22, cL23, cL24, cL25, cL29, cL30, cL31, cL32, cL36, cL48, cL50, cL51, cL52, cL64, cL99, cL100, cL700, cL1000, cL9999, cL10000, cI_add, cI_sub, cI_mul, cI_neg, cI_lt, cI_le, cI_eq, ne_eq, ifp, ifn, bI_p, bI_n, aZ_0, aZ_1, aZ_b, e_gdt, e_ifT, e_ifF, not_true_eq_false, not_false_eq_true, e_gd, cX0, cX1, cX2, cX3, cX4, cX5, cX6, cX7, cX8, cX9, cX10, cX11, cX12, cX13, cX14, cX15, cX16, cX17, cX18, cX19, cX20, cX21, cX22, cX23, cX24, cX25, cX29, cX30, cX31, cX32, cX36, Int.reduceToNat, cI_inT, m5, m3, mallW_eq hMS]
            exact ok_someI ⟨⟨gI_eq, rfl⟩, rfl, T, K, L, B, H0⟩
      · have w : frW T b = if b = 0 then orI (lfN (fsL T).2) (T 0 5).toNat else (fsL T).1 := if_neg z
        have h3 : 0 < T 0 3 := by omega
        have h5 : 0 < T 0 5 := by omega
        obtain ⟨s1, s2⟩ := fsL_ok hT h5 h3
        rw [w]
        simp (disch := omega) only [e_bi, e_bind, e_let, e_tr, e_tl, cLm1, cLm2, cL0, cL1, cL2, cL3, cL4, cL5, cL6, cL7, cL8, cL9, cL10, cL11, cL12, cL13, cL14, cL15, cL16, cL17, cL18, cL19, cL20, cL21, cL22, cL23, cL24, cL25, cL29, cL30, cL31, cL32, cL36, cL48, cL50, cL51, cL52, cL64, cL99, cL100, cL700, cL1000, cL9999, cL10000, cI_add, cI_sub, cI_mul, cI_neg, cI_lt, cI_le, cI_eq, ne_eq, ifp, ifn, bI_p, bI_n, aZ_0, aZ_1, aZ_b, e_gdt, e_ifT, e_ifF, not_true_eq_false, not_false_eq_true, e_gd, cX0, cX1, cX2, cX3, cX4, cX5, cX6, cX7, cX8, cX9, cX10, cX11, cX12, cX13, cX14, cX15, cX16, cX17, cX18, cX19, cX20, cX21, cX22, cX23, cX24, cX25, cX29, cX30, cX31, cX32, cX36, Int.reduceToNat, cI_inT, m5, m3, mallW_eq hMS]
        have call := fairOn_ok (n := (T 0 5).toNat) hT h3 (by omega) (T 0 5).toNat 8 [] 0 (pI (pI D 88 2 (cI 0)) 88 46 (cI (-1))) (-1, []) rfl (by omega) (fun v hv => by cases hv) (by omega) (fun u hu => by rw [Nat.zero_testBit]; rfl) (hMS.fr (fun k j a => gI_fr (by omega)) (fun j a b => gI_fr (by omega))) (fun i hi => absurd hi (by show ¬ (i < 0); omega)) ⟨gI_eq, fun z => absurd rfl z⟩ ⟨by show (-1 : Int) ≤ -1; omega, by show (-1 : Int) ≤ 2527200; omega⟩
        refine ok_bindI (Ok.mono (show Ok (f_X12_fairOn (cI 0) (cI 0) (pI (pI D 88 2 (cI 0)) 88 46 (cI (-1)))) _ from call) fun D9 q => ?_)
        obtain ⟨⟨k1, k2⟩, -, -, k3, k4⟩ := q
        have k1' : gI D9 88 46 = cI (fsL T).1 := k1
        have k2' : ∀ i : Nat, i < (T 0 5).toNat → gI D9 117 i = cI (lfN (fsL T).2 i) := k2 s1
        have fr : ∀ k j : Nat, ¬ mScr k j → gI D9 k j = gI (pI D 88 2 (cI 0)) k j := fun k j a => (k3 k j (by unfold mScr at a; omega) (by unfold mScr at a; omega) (by unfold mScr at a; omega) (by unfold mScr at a; omega)).trans (gI_fr (by unfold mScr at a; omega))
        have c2 : gI D9 88 2 = cI 0 := (k3 _ _ (by omega) (by omega) (by omega) (by omega)).trans ((gI_fr (by omega)).trans gI_eq)
        have n5 : gI D9 91 5 = cI (((T 0 5).toNat : Nat) : Int) := by rw [k3 _ _ (by omega) (by omega) (by omega) (by omega), gI_fr (by omega), m5]; congr 1; omega
        have ne := numberOf_eq (D := D9) (a := 117) (q := (T 0 5).toNat) (o := lfN (fsL T).2) (by omega) n5 k2'
        rcases eb with rfl | rfl
        · rw [if_neg (show ¬ (¬ (0 : Int) = 0) from fun z => z rfl), ne, e_bi, if_pos (show (0 : Int) = 0 from rfl)]
          exact ok_someI ⟨⟨c2, rfl⟩, k4, T, K, L, B, H0.mod fr⟩
        · rw [if_pos (show ¬ (1 : Int) = 0 by omega), if_neg (show ¬ (1 : Int) = 0 by omega), k1']
          exact ok_someI ⟨⟨c2, rfl⟩, k4, T, K, L, B, H0.mod fr⟩
  · refine hp_step (fc := f_X11_fair (cI b) D) (fm := fun D => f_X12_fair (cI b) D) (P := lawP) (C := rel T K L B) none (fun D x h => h) ?_ (fun D H => ?_)
    · unfold f_X11_fair
      simp (disch := omega) only [e_bi, e_bind, e_let, e_tr, e_tl, cLm1, cLm2, cL0, cL1, cL2, cL3, cL4, cL5, cL6, cL7, cL8, cL9, cL10, cL11, cL12, cL13, cL14, cL15, cL16, cL17, cL18, cL19, cL20, cL21, cL22, cL23, cL24, cL25, cL29, cL30, cL31, cL32, cL36, cL48, cL50, cL51, cL52, cL64, cL99, cL100, cL700, cL1000, cL9999, cL10000, cI_add, cI_sub, cI_mul, cI_neg, cI_lt, cI_le, cI_eq, ne_eq, ifp, ifn, bI_p, bI_n, aZ_0, aZ_1, aZ_b, e_gdt, e_ifT, e_ifF, not_true_eq_false, not_false_eq_true, e_gd, isBelow_eq, need_0]
      exact ok_someI ⟨rfl, H⟩
    · have H0 := H.code (x := cI 0)
      unfold f_X12_fair
      by_cases z : b < 0
      · simp (disch := omega) only [e_bi, e_bind, e_let, e_tr, e_tl, cLm1, cLm2, cL0, cL1, cL2, cL3, cL4, cL5, cL6, cL7, cL8, cL9, cL10, cL11, cL12, cL13, cL14, cL15, cL16, cL17, cL18, cL19, cL20, cL21, cL22, cL23, cL24, cL25, cL29, cL30, cL31, cL32, cL36, cL48, cL50, cL51, cL52, cL64, cL99, cL100, cL700, cL1000, cL9999, cL10000, cI_add, cI_sub, cI_mul, cI_neg, cI_lt, cI_le, cI_eq, ne_eq, ifp, ifn, bI_p, bI_n, aZ_0, aZ_1, aZ_b, e_gdt, e_ifT, e_ifF, not_true_eq_false, not_false_eq_true, e_gd, fail_eq]
        exact ok_someI ⟨gI_eq, rfl, T, K, L, B, H0.code⟩
      · simp (disch := omega) only [e_bi, e_bind, e_let, e_tr, e_tl, cLm1, cLm2, cL0, cL1, cL2, cL3, cL4, cL5, cL6, cL7, cL8, cL9, cL10, cL11, cL12, cL13, cL14, cL15, cL16, cL17, cL18, cL19, cL20, cL21, cL22, cL23, cL24, cL25, cL29, cL30, cL31, cL32, cL36, cL48, cL50, cL51, cL52, cL64, cL99, cL100, cL700, cL1000, cL9999, cL10000, cI_add, cI_sub, cI_mul, cI_neg, cI_lt, cI_le, cI_eq, ne_eq, ifp, ifn, bI_p, bI_n, aZ_0, aZ_1, aZ_b, e_gdt, e_ifT, e_ifF, not_true_eq_false, not_false_eq_true, e_gd, fail_eq]
        exact ok_someI ⟨gI_eq, rfl, T, K, L, B, H0.code⟩
end FA2
