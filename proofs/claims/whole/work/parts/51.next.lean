/-! which gate to smell next (23): answers -/
section NX2
def gmN {α : Type} [DecidableEq α] (K : Nat → α) : Nat → Nat
  | 0 => 0
  | n + 1 => if gmN K n < ctN K (K n) (n + 1) then ctN K (K n) (n + 1) else gmN K n
theorem gm_is {α : Type} [DecidableEq α] {K : Nat → α} : ∀ n : Nat, isG K n (gmN K n)
  | 0 => isG_0
  | n + 1 => isG_s (gm_is n)
def ggN (T : aT) (h : Int) (g : Nat) : Nat := gmN (kyK T (T 11 g) h (csN T 5)) (csN T 5).length
def chN (T : aT) (h : Int) : Nat → Int × Int
  | 0 => (-1, -1)
  | i + 1 => if (chN T h i).2 = -1 ∨ (ggN T h i : Int) < (chN T h i).1 then ((ggN T h i : Int), (i : Int)) else chN T h i
theorem ch_b {T : aT} {h : Int} (hp : TOKp T) : ∀ i : Nat, ((chN T h i).1 = -1 ↔ (chN T h i).2 = -1) ∧ -1 ≤ (chN T h i).1 ∧ (chN T h i).1 ≤ 1925 ∧ -1 ≤ (chN T h i).2 ∧ (chN T h i).2 < i
  | 0 => by simp [chN]
  | i + 1 => by
    have a := ch_b (h := h) hp i
    have l := (cs_okL hp).1
    have b := (isG_b (gm_is (K := kyK T (T 11 i) h (csN T 5)) (csN T 5).length)).1
    have b' : ggN T h i ≤ 1925 := Nat.le_trans b l
    rw [chN]
    split
    · dsimp only; omega
    · omega
theorem gg_of {T : aT} {h : Int} {g G : Nat} (hp : TOKp T) (hg : (g : Int) < T 0 5) (k : isG (koK T (T 11 g) h (csN T 5)) (csN T 5).length G) : G = ggN T h g := by
  have hq := hp.1
  have gt := hp.2.2.2.2.1 g hg
  have l := cs_okL hp
  refine isG_u (isG_cg (fun i j hi hj => ?_) k) (gm_is _)
  have va := v_b (h := h) hp (l.2 _ (lq_m hi).2).2.1 gt.1 gt.2
  have vb := v_b (h := h) hp (l.2 _ (lq_m hj).2).2.1 gt.1 gt.2
  exact (ko_iff (by omega) vb va).trans ky_iff.symm
theorem choose_ok {D : aD} {T : aT} {h : Int} (hp : TOKp T) (hn : TOKn T) (hC : CP D 2 T) (hN : CNow D T) (hF : FD D T (csN T 5)) (u1 : 0 ≤ h) (u2 : h < 24) :
    Ok (f_X10_chooseGate (cI h) D) (fun r => r.1 = cI (chN T h (T 0 5).toNat).1 ∧ (0 < T 0 5 → gI r.2 79 5 = cI (chN T h (T 0 5).toNat).2) ∧ ∀ k j : Nat, ¬ (57 ≤ k ∧ k < 88) → gI r.2 k j = gI D k j) := by
  have hq := hp.1
  unfold f_X10_chooseGate J_X10_chooseGate_4
  refine ok_bindI (ok_lp (fun i t => t.1 = cI (chN T h i).1 ∧ t.2.1 = cI (i : Int) ∧ (0 < i → gI t.2.2 79 5 = cI (chN T h i).2) ∧ ∀ k j : Nat, ¬ (k = 58 ∨ k = 59 ∨ (k = 79 ∧ j = 5) ∨ (81 ≤ k ∧ k ≤ 87)) → gI t.2.2 k j = gI D k j) (T 0 5).toNat (by omega) ⟨rfl, rfl, fun z => absurd z (by omega), fun _ _ _ => rfl⟩ ?_)
  rintro i ⟨x, y, D1⟩ hi ⟨q1, q2, q3, q4⟩
  obtain rfl : x = _ := q1
  obtain rfl : y = cI (i : Int) := q2
  show Ok (B_X10_chooseGate_4 (cI h) (cI (chN T h i).1) (cI (i : Int)) D1) _
  have q4' : ∀ k j : Nat, ¬ (k = 58 ∨ k = 59 ∨ (k = 79 ∧ j = 5) ∨ (81 ≤ k ∧ k ≤ 87)) → gI D1 k j = gI D k j := q4
  obtain ⟨hC1, hN1⟩ := cF hp hC hN (D' := D1) (fun k j hk => q4' k j (by omega))
  obtain ⟨-, -, p3, -, -, -, -, -, q11, -⟩ := CP.two hC1
  have p5 := p3 5 (by omega) (by omega)
  have e : ((i : Int)).toNat = i := by omega
  have cb := ch_b (h := h) hp i
  by_cases c : (i : Int) < T 0 5
  · have gt := hp.2.2.2.2.1 i c
    have a11 : gI D1 11 i = cI (T 11 i) := q11 i (by omega)
    have hF1 : FD D1 T (csN T 5) := ⟨(q4' _ _ (by omega)).trans hF.1, fun a q h => (q4' _ _ (by omega)).trans (hF.2 a q h)⟩
    have gr := great_ok (h := h) hp hn hC1 hN1 hF1 (cs_okL hp) gt.1 gt.2 u1 u2
    suffices hsu : ∀ Q : ((Int32 × Int32 × aD) ⊕ (Int32 × aD)) → Prop, (∀ D5 : aD, (gI D5 79 5 = cI (chN T h (i + 1)).2) → (∀ k j : Nat, ¬ (k = 58 ∨ k = 59 ∨ (k = 79 ∧ j = 5) ∨ (81 ≤ k ∧ k ≤ 87)) → gI D5 k j = gI D k j) → Q (.inl (cI (chN T h (i + 1)).1, cI ((i : Int) + 1), D5))) → Ok (B_X10_chooseGate_4 (cI h) (cI (chN T h i).1) (cI (i : Int)) D1) Q from hsu _ (fun D5 a b => Or.inl ⟨_, rfl, by omega, rfl, rfl, fun _ => a, b⟩)
    intro Q hQ
    unfold B_X10_chooseGate_4
    simp (disch := omega) only [e_bi, e_bind, e_let, e_tr, e_tl, cLm1, cLm2, cL0, cL1, cL2, cL3, cL4, cL5, cL6, cL7, cL8, cL9, cL10, cL11, cL12, cL13, cL14, cL15, cL16, cL17, cL18, cL19, cL20, cL21, cL22, cL23, cL24, cL25, cL29, cL30, cL31, cL32, cL36, cL48, cL50, cL51, cL52, cL64, cL99, cL100, cL700, cL1000, cL9999, cL10000, cI_add, cI_sub, cI_mul, cI_neg, cI_lt, cI_le, cI_eq, ne_eq, ifp, ifn, bI_p, bI_n, aZ_0, aZ_1, aZ_b, e_gdt, e_ifT, e_ifF, not_true_eq_false, not_false_eq_true, e_gd, cI_inT, cI_nat, e, p5, a11]
    refine ok_biI (gr.mono fun r k => ?_)
    obtain ⟨y, D2⟩ := r
    obtain ⟨⟨G, k1, k2⟩, k3⟩ := k
    obtain rfl : y = cI (G : Int) := k1
    obtain rfl : G = ggN T h i := gg_of hp c k2
    have gb := (isG_b k2).1
    have gl := (cs_okL hp).1
    have fr : ∀ k j : Nat, ¬ (k = 58 ∨ k = 59 ∨ (k = 79 ∧ j = 5) ∨ (81 ≤ k ∧ k ≤ 87)) → gI D2 k j = gI D k j := fun k j a => (k3 k j (by omega)).trans (q4' k j a)
    have st : chN T h (i + 1) = if (chN T h i).2 = -1 ∨ (ggN T h i : Int) < (chN T h i).1 then ((ggN T h i : Int), (i : Int)) else chN T h i := rfl
    by_cases z : (chN T h i).1 = -1
    · rw [if_pos (Or.inl (cb.1.mp z))] at st
      rw [st] at hQ
      simp (disch := omega) only [e_bi, e_bind, e_let, e_tr, e_tl, cLm1, cLm2, cL0, cL1, cL2, cL3, cL4, cL5, cL6, cL7, cL8, cL9, cL10, cL11, cL12, cL13, cL14, cL15, cL16, cL17, cL18, cL19, cL20, cL21, cL22, cL23, cL24, cL25, cL29, cL30, cL31, cL32, cL36, cL48, cL50, cL51, cL52, cL64, cL99, cL100, cL700, cL1000, cL9999, cL10000, cI_add, cI_sub, cI_mul, cI_neg, cI_lt, cI_le, cI_eq, ne_eq, ifp, ifn, bI_p, bI_n, aZ_0, aZ_1, aZ_b, e_gdt, e_ifT, e_ifF, not_true_eq_false, not_false_eq_true, e_gd, z]
      exact hQ _ gI_eq (fun k j a => (gI_fr (by omega)).trans (fr k j a)) |> ok_someI
    · by_cases w : (ggN T h i : Int) < (chN T h i).1
      · rw [if_pos (Or.inr w)] at st
        rw [st] at hQ
        simp (disch := omega) only [e_bi, e_bind, e_let, e_tr, e_tl, cLm1, cLm2, cL0, cL1, cL2, cL3, cL4, cL5, cL6, cL7, cL8, cL9, cL10, cL11, cL12, cL13, cL14, cL15, cL16, cL17, cL18, cL19, cL20, cL21, cL22, cL23, cL24, cL25, cL29, cL30, cL31, cL32, cL36, cL48, cL50, cL51, cL52, cL64, cL99, cL100, cL700, cL1000, cL9999, cL10000, cI_add, cI_sub, cI_mul, cI_neg, cI_lt, cI_le, cI_eq, ne_eq, ifp, ifn, bI_p, bI_n, aZ_0, aZ_1, aZ_b, e_gdt, e_ifT, e_ifF, not_true_eq_false, not_false_eq_true, e_gd]
        exact hQ _ gI_eq (fun k j a => (gI_fr (by omega)).trans (fr k j a)) |> ok_someI
      · rw [if_neg (by omega)] at st
        rw [st] at hQ
        have i0 : 0 < i := by omega
        simp (disch := omega) only [e_bi, e_bind, e_let, e_tr, e_tl, cLm1, cLm2, cL0, cL1, cL2, cL3, cL4, cL5, cL6, cL7, cL8, cL9, cL10, cL11, cL12, cL13, cL14, cL15, cL16, cL17, cL18, cL19, cL20, cL21, cL22, cL23, cL24, cL25, cL29, cL30, cL31, cL32, cL36, cL48, cL50, cL51, cL52, cL64, cL99, cL100, cL700, cL1000, cL9999, cL10000, cI_add, cI_sub, cI_mul, cI_neg, cI_lt, cI_le, cI_eq, ne_eq, ifp, ifn, bI_p, bI_n, aZ_0, aZ_1, aZ_b, e_gdt, e_ifT, e_ifF, not_true_eq_false, not_false_eq_true, e_gd]
        exact ok_someI (hQ D2 ((k3 79 5 (by omega)).trans (q3 i0)) fr)
  · obtain rfl : i = (T 0 5).toNat := by omega
    unfold B_X10_chooseGate_4
    simp (disch := omega) only [e_bi, e_bind, e_let, e_tr, e_tl, cLm1, cLm2, cL0, cL1, cL2, cL3, cL4, cL5, cL6, cL7, cL8, cL9, cL10, cL11, cL12, cL13, cL14, cL15, cL16, cL17, cL18, cL19, cL20, cL21, cL22, cL23, cL24, cL25, cL29, cL30, cL31, cL32, cL36, cL48, cL50, cL51, cL52, cL64, cL99, cL100, cL700, cL1000, cL9999, cL10000, cI_add, cI_sub, cI_mul, cI_neg, cI_lt, cI_le, cI_eq, ne_eq, ifp, ifn, bI_p, bI_n, aZ_0, aZ_1, aZ_b, e_gdt, e_ifT, e_ifF, not_true_eq_false, not_false_eq_true, e_gd, p5]
    exact ok_someI (Or.inr ⟨_, rfl, ok_someI ⟨rfl, fun z => q3 (by omega), fun k j a => q4' k j (by omega)⟩⟩)
def nxW (T : aT) (h b : Int) : Int := if T 0 5 = 0 ∨ (csN T 5).length = 0 then -1 else if b = 0 then (chN T h (T 0 5).toNat).2 else (chN T h (T 0 5).toNat).1
theorem step_23 {D : aD} {v1 v2 v3 v4 v5 : Int32} (h : lawP D) : Ok2 (f_law_23 v1 v2 v3 v4 v5 D) (fun r D => r = 1 ∧ lawP D) := by
  obtain ⟨T, K, L, B, H⟩ := h
  have ⟨hp, hn, hC, hN, hM, hR, _⟩ := H
  have hq := hp.1
  obtain ⟨a, rfl, ha1, ha2⟩ := cI_of v1
  obtain ⟨b, rfl, hb1, hb2⟩ := cI_of v2
  have okl := cs_okL hp
  have l2 := okl.1
  have cb := ch_b (h := a) hp (T 0 5).toNat
  unfold f_law_23 f_L_next
  by_cases xx : 0 ≤ a ∧ a < 24
  · by_cases x3 : 0 ≤ b ∧ b < 2
    · have eb : b = 0 ∨ b = 1 := by omega
      refine hp_step (fc := f_X11_next (cI a) (cI b) D) (fm := fun D => f_X12_next (cI a) (cI b) D) (P := lawP) (C := rel T K L B) (some (cI (nxW T a b))) (fun D x h => h) ?_ (fun D H => ?_)
      · have ev : f_X11_next (cI a) (cI b) D = J_X11_next_22 (cI a) (cI b) 1 D := by
          unfold f_X11_next
          simp (disch := omega) only [e_bi, e_bind, e_let, e_tr, e_tl, cLm1, cLm2, cL0, cL1, cL2, cL3, cL4, cL5, cL6, cL7, cL8, cL9, cL10, cL11, cL12, cL13, cL14, cL15, cL16, cL17, cL18, cL19, cL20, cL21, cL22, cL23, cL24, cL25, cL29, cL30, cL31, cL32, cL36, cL48, cL50, cL51, cL52, cL64, cL99, cL100, cL700, cL1000, cL9999, cL10000, cI_add, cI_sub, cI_mul, cI_neg, cI_lt, cI_le, cI_eq, ne_eq, ifp, ifn, bI_p, bI_n, aZ_0, aZ_1, aZ_b, e_gdt, e_ifT, e_ifF, not_true_eq_false, not_false_eq_true, e_gd, isBelow_eq]
        rw [ev]
        unfold J_X11_next_22
        rw [show f_X11_need 1 D = _ from need_1, show (∀ (y : Int32) (kk : Int32 → aD → Option ((String ⊕ Int32) × aD)), aTry (some (.inr y, D)) kk = kk y D) from fun _ _ => rfl]
        refine ok_bindI ((collect_ok hp hn hC hN).mono fun D1 q => ?_)
        have H1 : rel T K L B D1 := H.cls q.2
        obtain ⟨-, -, p3, -⟩ := CP.two H1.2.2.1
        have p5 := p3 5 (by omega) (by omega)
        have f1 := q.1.1
        by_cases z : T 0 5 = 0
        · have w : nxW T a b = -1 := if_pos (Or.inl z)
          rw [w]
          simp (disch := omega) only [e_bi, e_bind, e_let, e_tr, e_tl, cLm1, cLm2, cL0, cL1, cL2, cL3, cL4, cL5, cL6, cL7, cL8, cL9, cL10, cL11, cL12, cL13, cL14, cL15, cL16, cL17, cL18, cL19, cL20, cL21, cL22, cL23, cL24, cL25, cL29, cL30, cL31, cL32, cL36, cL48, cL50, cL51, cL52, cL64, cL99, cL100, cL700, cL1000, cL9999, cL10000, cI_add, cI_sub, cI_mul, cI_neg, cI_lt, cI_le, cI_eq, ne_eq, ifp, ifn, bI_p, bI_n, aZ_0, aZ_1, aZ_b, e_gdt, e_ifT, e_ifF, not_true_eq_false, not_false_eq_true, e_gd, p5]
          exact ok_someI ⟨rfl, H1⟩
        · by_cases y : (csN T 5).length = 0
          · have w : nxW T a b = -1 := if_pos (Or.inr y)
            rw [w]
            simp (disch := omega) only [e_bi, e_bind, e_let, e_tr, e_tl, cLm1, cLm2, cL0, cL1, cL2, cL3, cL4, cL5, cL6, cL7, cL8, cL9, cL10, cL11, cL12, cL13, cL14, cL15, cL16, cL17, cL18, cL19, cL20, cL21, cL22, cL23, cL24, cL25, cL29, cL30, cL31, cL32, cL36, cL48, cL50, cL51, cL52, cL64, cL99, cL100, cL700, cL1000, cL9999, cL10000, cI_add, cI_sub, cI_mul, cI_neg, cI_lt, cI_le, cI_eq, ne_eq, ifp, ifn, bI_p, bI_n, aZ_0, aZ_1, aZ_b, e_gdt, e_ifT, e_ifF, not_true_eq_false, not_false_eq_true, e_gd, p5, f1]
            exact ok_someI ⟨rfl, H1⟩
          · have w : nxW T a b = if b = 0 then (chN T a (T 0 5).toNat).2 else (chN T a (T 0 5).toNat).1 := if_neg (by omega)
            rw [w]
            simp (disch := omega) only [e_bi, e_bind, e_let, e_tr, e_tl, cLm1, cLm2, cL0, cL1, cL2, cL3, cL4, cL5, cL6, cL7, cL8, cL9, cL10, cL11, cL12, cL13, cL14, cL15, cL16, cL17, cL18, cL19, cL20, cL21, cL22, cL23, cL24, cL25, cL29, cL30, cL31, cL32, cL36, cL48, cL50, cL51, cL52, cL64, cL99, cL100, cL700, cL1000, cL9999, cL10000, cI_add, cI_sub, cI_mul, cI_neg, cI_lt, cI_le, cI_eq, ne_eq, ifp, ifn, bI_p, bI_n, aZ_0, aZ_1, aZ_b, e_gdt, e_ifT, e_ifF, not_true_eq_false, not_false_eq_true, e_gd, p5, f1]
            refine ok_biI ((choose_ok hp hn H1.2.2.1 H1.2.2.2.1 q.1 xx.1 xx.2).mono fun r k => ?_)
            obtain ⟨v, D2⟩ := r
            obtain ⟨k1, k2, k3⟩ := k
            obtain rfl : v = _ := k1
            have k2' : gI D2 79 5 = _ := k2 (by omega)
            rcases eb with rfl | rfl
            · simp (disch := omega) only [e_bi, e_bind, e_let, e_tr, e_tl, cLm1, cLm2, cL0, cL1, cL2, cL3, cL4, cL5, cL6, cL7, cL8, cL9, cL10, cL11, cL12, cL13, cL14, cL15, cL16, cL17, cL18, cL19, cL20, cL21, cL22, cL23, cL24, cL25, cL29, cL30, cL31, cL32, cL36, cL48, cL50, cL51, cL52, cL64, cL99, cL100, cL700, cL1000, cL9999, cL10000, cI_add, cI_sub, cI_mul, cI_neg, cI_lt, cI_le, cI_eq, ne_eq, ifp, ifn, bI_p, bI_n, aZ_0, aZ_1, aZ_b, e_gdt, e_ifT, e_ifF, not_true_eq_false, not_false_eq_true, e_gd, k2']
              exact ok_someI ⟨rfl, H1.cls k3⟩
            · simp (disch := omega) only [e_bi, e_bind, e_let, e_tr, e_tl, cLm1, cLm2, cL0, cL1, cL2, cL3, cL4, cL5, cL6, cL7, cL8, cL9, cL10, cL11, cL12, cL13, cL14, cL15, cL16, cL17, cL18, cL19, cL20, cL21, cL22, cL23, cL24, cL25, cL29, cL30, cL31, cL32, cL36, cL48, cL50, cL51, cL52, cL64, cL99, cL100, cL700, cL1000, cL9999, cL10000, cI_add, cI_sub, cI_mul, cI_neg, cI_lt, cI_le, cI_eq, ne_eq, ifp, ifn, bI_p, bI_n, aZ_0, aZ_1, aZ_b, e_gdt, e_ifT, e_ifF, not_true_eq_false, not_false_eq_true, e_gd]
              exact ok_someI ⟨rfl, H1.cls k3⟩
      · have H0 := H.code (x := cI 0)
        have hM0 := H0.2.2.2.2.1
        have hMS := MS.of hM0 H0.2.2.2.2.2.1
        have hR0 := H0.2.2.2.2.2.1
        have hn2 := hn.1
        have hT := TOKs.of hp hn
        have hO : noS (pI D 88 2 (cI 0)) T := ⟨hR0.2.2.2.2 2 (by omega), fun i hi => ⟨hR0.2.2.1 0 i (by omega) (by omega), hR0.2.2.1 1 i (by omega) (by omega), hR0.2.2.1 2 i (by omega) (by omega), hR0.2.2.1 3 i (by omega) (by omega)⟩⟩
        have ev : f_X12_next (cI a) (cI b) D = (f_X12_tellCases (pI D 88 2 (cI 0))).bind (fun D_8 => J_X12_next_42 (cI a) (cI b) (-1) (-1) 0 D_8) := by
          unfold f_X12_next
          rcases eb with rfl | rfl
          · simp (disch := omega) only [e_bi, e_bind, e_let, e_tr, e_tl, cLm1, cLm2, cL0, cL1, cL2, cL3, cL4, cL5, cL6, cL7, cL8, cL9, cL10, cL11, cL12, cL13, cL14, cL15, cL16, cL17, cL18, cL19, cL20, cL21, cL22, cL23, cL24, cL25, cL29, cL30, cL31, cL32, cL36, cL48, cL50, cL51, cL52, cL64, cL99, cL100, cL700, cL1000, cL9999, cL10000, cI_add, cI_sub, cI_mul, cI_neg, cI_lt, cI_le, cI_eq, ne_eq, ifp, ifn, bI_p, bI_n, aZ_0, aZ_1, aZ_b, e_gdt, e_ifT, e_ifF, not_true_eq_false, not_false_eq_true, e_gd, cL23, isIn_eq]
          · simp (disch := omega) only [e_bi, e_bind, e_let, e_tr, e_tl, cLm1, cLm2, cL0, cL1, cL2, cL3, cL4, cL5, cL6, cL7, cL8, cL9, cL10, cL11, cL12, cL13, cL14, cL15, cL16, cL17, cL18, cL19, cL20, cL21, cL22, cL23, cL24, cL25, cL29, cL30, cL31, cL32, cL36, cL48, cL50, cL51, cL52, cL64, cL99, cL100, cL700, cL1000, cL9999, cL10000, cI_add, cI_sub, cI_mul, cI_neg, cI_lt, cI_le, cI_eq, ne_eq, ifp, ifn, bI_p, bI_n, aZ_0, aZ_1, aZ_b, e_gdt, e_ifT, e_ifF, not_true_eq_false, not_false_eq_true, e_gd, cL23, isIn_eq]
        show Ok (f_X12_next (cI a) (cI b) D) _
        rw [ev]
        refine ok_bindI ((tellCases_ok hp hn hMS (hM0.1 4 (by omega)) hO).mono fun D1 q => ?_)
        obtain ⟨f0, q2, q3⟩ := q
        have f1 := f0.1
        -- the end
        have fin : ∀ (D2 : aD) (x y : Int), MS D2 T → (∀ k j : Nat, ¬ mScr k j → ¬ (j = (T 0 4).toNat ∧ (k = 99 ∨ k = 100 ∨ k = 101 ∨ k = 106)) → gI D2 k j = gI (pI D 88 2 (cI 0)) k j) → gI D2 88 2 = cI 0 → D2.2 = D.2 → (nxW T a b = if b = 0 then x else y) → Ok (J_X12_next_97 (cI b) (cI x) (cI y) D2) (fun r => wM (some (cI (nxW T a b))) (gI r.2 88 2) r.1 ∧ r.2.2 = D.2 ∧ lawP r.2) := by
          intro D2 x y m1 m2 m3 m4 m5
          unfold J_X12_next_97
          rw [m5]
          rcases eb with rfl | rfl
          · rw [if_neg (show ¬ (cI 0 ≠ 0) from fun z => z rfl), if_pos rfl]
            exact ok_someI ⟨⟨m3, rfl⟩, m4, T, K, L, B, H0.frP m2⟩
          · rw [if_pos (show cI 1 ≠ 0 by decide), if_neg (by omega)]
            exact ok_someI ⟨⟨m3, rfl⟩, m4, T, K, L, B, H0.frP m2⟩
        have fC := frC_fr q3 (q2.2.2.2.2.2.1.trans hMS.2.2.2.2.2.1.symm)
        have d88 : gI D1 88 2 = cI 0 := (q3.1 _ _ (by omega) (by omega) (by omega) (by omega)).trans gI_eq
        unfold J_X12_next_42
        by_cases y : (csN T 5).length = 0
        · have w : nxW T a b = if b = 0 then -1 else -1 := (if_pos (Or.inr y)).trans (by split <;> rfl)
          have L1 : aLp (fun s : Int32 × Int32 × Int32 × aD => B_X12_next_42 (cI a) (cI b) s.1 s.2.1 s.2.2.1 s.2.2.2) (-1, -1, 0, D1) = some (cI (-1), cI (-1), D1) := by
            refine lp_cnt (body := fun s : Int32 × Int32 × Int32 × aD => B_X12_next_42 (cI a) (cI b) s.1 s.2.1 s.2.2.1 s.2.2.2) 0 (by omega) (fun _ => (cI (-1), cI (-1), cI 0, D1)) (cI (-1), cI (-1), D1) (fun i hi => absurd hi (by omega)) ?_
            show B_X12_next_42 (cI a) (cI b) (cI (-1)) (cI (-1)) (cI 0) D1 = _
            have m5 := q2.1 5 (by omega) (by omega)
            unfold B_X12_next_42
            by_cases s0 : T 0 5 ≤ 0
            · simp (disch := omega) only [e_bi, e_bind, e_let, e_tr, e_tl, cLm1, cLm2, cL0, cL1, cL2, cL3, cL4, cL5, cL6, cL7, cL8, cL9, cL10, cL11, cL12, cL13, cL14, cL15, cL16, cL17, cL18, cL19, cL20, cL21, cL22, cL23, cL24, cL25, cL29, cL30, cL31, cL32, cL36, cL48, cL50, cL51, cL52, cL64, cL99, cL100, cL700, cL1000, cL9999, cL10000, cI_add, cI_sub, cI_mul, cI_neg, cI_lt, cI_le, cI_eq, ne_eq, ifp, ifn, bI_p, bI_n, aZ_0, aZ_1, aZ_b, e_gdt, e_ifT, e_ifF, not_true_eq_false, not_false_eq_true, e_gd, cX0, cX1, cX2, cX3, cX4, cX5, cX6, cX7, cX8, cX9, cX10, cX11, cX12, cX13, cX14, cX15, cX16, cX17, cX18, cX19, cX20, cX21, cX22, cX23, cX24, cX25, cX29, cX30, cX31, cX32, cX36, Int.reduceToNat, cI_inT, m5]
            · simp (disch := omega) only [e_bi, e_bind, e_let, e_tr, e_tl, cLm1, cLm2, cL0, cL1, cL2, cL3, cL4, cL5, cL6, cL7, cL8, cL9, cL10, cL11, cL12, cL13, cL14, cL15, cL16, cL17, cL18, cL19, cL20, cL21, cL22, cL23, cL24, cL25, cL29, cL30, cL31, cL32, cL36, cL48, cL50, cL51, cL52, cL64, cL99, cL100, cL700, cL1000, cL9999, cL10000, cI_add, cI_sub, cI_mul, cI_neg, cI_lt, cI_le, cI_eq, ne_eq, ifp, ifn, bI_p, bI_n, aZ_0, aZ_1, aZ_b, e_gdt, e_ifT, e_ifF, not_true_eq_false, not_false_eq_true, e_gd, cX0, cX1, cX2, cX3, cX4, cX5, cX6, cX7, cX8, cX9, cX10, cX11, cX12, cX13, cX14, cX15, cX16, cX17, cX18, cX19, cX20, cX21, cX22, cX23, cX24, cX25, cX29, cX30, cX31, cX32, cX36, Int.reduceToNat, cI_inT, m5, f1]
          rw [L1, e_bind]
          exact fin D1 (-1) (-1) q2 fC d88 q3.2 w
        · refine ok_bindI (ok_lp (fun i t => t.1 = cI (chN T a i).2 ∧ t.2.1 = cI (chN T a i).1 ∧ t.2.2.1 = cI (i : Int) ∧ MS t.2.2.2 T ∧ frG T D1 t.2.2.2) (T 0 5).toNat (by omega) ⟨rfl, rfl, rfl, q2, fun _ _ _ _ _ _ => rfl, rfl⟩ ?_)
          rintro i ⟨x1, x2, x3, D2⟩ hi ⟨r1, r2, r3, r4, r5⟩
          obtain rfl : x1 = _ := r1
          obtain rfl : x2 = _ := r2
          obtain rfl : x3 = _ := r3
          show Ok (B_X12_next_42 (cI a) (cI b) (cI (chN T a i).2) (cI (chN T a i).1) (cI (i : Int)) D2) _
          have r4' : MS D2 T := r4
          have r5' : frG T D1 D2 := r5
          have m5 := r4'.1 5 (by omega) (by omega)
          have c52 : gI D2 88 52 = cI ((csN T 5).length : Int) := (r5'.1 _ _ (by omega) (by omega) (by omega) (by omega)).trans f1
          have c4 : gI D2 91 4 = cI (T 0 4) := (r5'.1 _ _ (by omega) (by omega) (by omega) (by omega)).trans ((q3.1 _ _ (by omega) (by omega) (by omega) (by omega)).trans (hM0.1 4 (by omega)))
          have cbi := ch_b (h := a) hp i
          by_cases c : (i : Int) < T 0 5
          · have hMD2 : MD D2 (csN T 5) := ⟨c52, fun j q h => (r5'.1 _ _ (by omega) (by omega) (by omega) (by omega)).trans (f0.2 j q h)⟩
            have ga := groupAt_ok (g := i) (h := a) hp hn r4' c4 hMD2 okl c xx.1 xx.2
            suffices hsu : ∀ Q : ((Int32 × Int32 × Int32 × aD) ⊕ (Int32 × Int32 × aD)) → Prop, (∀ D5 : aD, MS D5 T → frG T D1 D5 → Q (.inl (cI (chN T a (i + 1)).2, cI (chN T a (i + 1)).1, cI ((i : Int) + 1), D5))) → Ok (B_X12_next_42 (cI a) (cI b) (cI (chN T a i).2) (cI (chN T a i).1) (cI (i : Int)) D2) Q from hsu _ (fun D5 a b => Or.inl ⟨_, rfl, by omega, rfl, rfl, rfl, a, b⟩)
            intro Q hQ
            unfold B_X12_next_42
            simp (disch := omega) only [e_bi, e_bind, e_let, e_tr, e_tl, cLm1, cLm2, cL0, cL1, cL2, cL3, cL4, cL5, cL6, cL7, cL8, cL9, cL10, cL11, cL12, cL13, cL14, cL15, cL16, cL17, cL18, cL19, cL20, cL21, cL22, cL23, cL24, cL25, cL29, cL30, cL31, cL32, cL36, cL48, cL50, cL51, cL52, cL64, cL99, cL100, cL700, cL1000, cL9999, cL10000, cI_add, cI_sub, cI_mul, cI_neg, cI_lt, cI_le, cI_eq, ne_eq, ifp, ifn, bI_p, bI_n, aZ_0, aZ_1, aZ_b, e_gdt, e_ifT, e_ifF, not_true_eq_false, not_false_eq_true, e_gd, cX0, cX1, cX2, cX3, cX4, cX5, cX6, cX7, cX8, cX9, cX10, cX11, cX12, cX13, cX14, cX15, cX16, cX17, cX18, cX19, cX20, cX21, cX22, cX23, cX24, cX25, cX29, cX30, cX31, cX32, cX36, Int.reduceToNat, cI_inT, m5, c52]
            refine ok_biI (ga.mono fun r k => ?_)
            obtain ⟨v, D3⟩ := r
            obtain ⟨⟨G, k1, k2⟩, k3, k4⟩ := k
            obtain rfl : v = cI (G : Int) := k1
            have gb := (isG_b k2).1
            obtain rfl : G = ggN T a i := isG_u k2 (gm_is _)
            have st : chN T a (i + 1) = if (chN T a i).2 = -1 ∨ (ggN T a i : Int) < (chN T a i).1 then ((ggN T a i : Int), (i : Int)) else chN T a i := rfl
            have fr : frG T D1 D3 := ⟨fun k j a b c d => (k4.1 k j a b c d).trans (r5'.1 k j a b c d), k4.2.trans r5'.2⟩
            by_cases z : (chN T a i).2 = -1
            · rw [if_pos (Or.inl z)] at st
              rw [st] at hQ
              simp (disch := omega) only [e_bi, e_bind, e_let, e_tr, e_tl, cLm1, cLm2, cL0, cL1, cL2, cL3, cL4, cL5, cL6, cL7, cL8, cL9, cL10, cL11, cL12, cL13, cL14, cL15, cL16, cL17, cL18, cL19, cL20, cL21, cL22, cL23, cL24, cL25, cL29, cL30, cL31, cL32, cL36, cL48, cL50, cL51, cL52, cL64, cL99, cL100, cL700, cL1000, cL9999, cL10000, cI_add, cI_sub, cI_mul, cI_neg, cI_lt, cI_le, cI_eq, ne_eq, ifp, ifn, bI_p, bI_n, aZ_0, aZ_1, aZ_b, e_gdt, e_ifT, e_ifF, not_true_eq_false, not_false_eq_true, e_gd, z]
              exact ok_someI (hQ D3 k3 fr)
            · by_cases w : (ggN T a i : Int) < (chN T a i).1
              · rw [if_pos (Or.inr w)] at st
                rw [st] at hQ
                simp (disch := omega) only [e_bi, e_bind, e_let, e_tr, e_tl, cLm1, cLm2, cL0, cL1, cL2, cL3, cL4, cL5, cL6, cL7, cL8, cL9, cL10, cL11, cL12, cL13, cL14, cL15, cL16, cL17, cL18, cL19, cL20, cL21, cL22, cL23, cL24, cL25, cL29, cL30, cL31, cL32, cL36, cL48, cL50, cL51, cL52, cL64, cL99, cL100, cL700, cL1000, cL9999, cL10000, cI_add, cI_sub, cI_mul, cI_neg, cI_lt, cI_le, cI_eq, ne_eq, ifp, ifn, bI_p, bI_n, aZ_0, aZ_1, aZ_b, e_gdt, e_ifT, e_ifF, not_true_eq_false, not_false_eq_true, e_gd]
                exact ok_someI (hQ D3 k3 fr)
              · rw [if_neg (by omega)] at st
                rw [st] at hQ
                simp (disch := omega) only [e_bi, e_bind, e_let, e_tr, e_tl, cLm1, cLm2, cL0, cL1, cL2, cL3, cL4, cL5, cL6, cL7, cL8, cL9, cL10, cL11, cL12, cL13, cL14, cL15, cL16, cL17, cL18, cL19, cL20, cL21, cL22, cL23, cL24, cL25, cL29, cL30, cL31, cL32, cL36, cL48, cL50, cL51, cL52, cL64, cL99, cL100, cL700, cL1000, cL9999, cL10000, cI_add, cI_sub, cI_mul, cI_neg, cI_lt, cI_le, cI_eq, ne_eq, ifp, ifn, bI_p, bI_n, aZ_0, aZ_1, aZ_b, e_gdt, e_ifT, e_ifF, not_true_eq_false, not_false_eq_true, e_gd]
                exact ok_someI (hQ D3 k3 fr)
          · obtain rfl : i = (T 0 5).toNat := by omega
            unfold B_X12_next_42
            simp (disch := omega) only [e_bi, e_bind, e_let, e_tr, e_tl, cLm1, cLm2, cL0, cL1, cL2, cL3, cL4, cL5, cL6, cL7, cL8, cL9, cL10, cL11, cL12, cL13, cL14, cL15, cL16, cL17, cL18, cL19, cL20, cL21, cL22, cL23, cL24, cL25, cL29, cL30, cL31, cL32, cL36, cL48, cL50, cL51, cL52, cL64, cL99, cL100, cL700, cL1000, cL9999, cL10000, cI_add, cI_sub, cI_mul, cI_neg, cI_lt, cI_le, cI_eq, ne_eq, ifp, ifn, bI_p, bI_n, aZ_0, aZ_1, aZ_b, e_gdt, e_ifT, e_ifF, not_true_eq_false, not_false_eq_true, e_gd, cX0, cX1, cX2, cX3, cX4, cX5, cX6, cX7, cX8, cX9, cX10, cX11, cX12, cX13, cX14, cX15, cX16, cX17, cX18, cX19, cX20, cX21, cX22, cX23, cX24, cX25, cX29, cX30, cX31, cX32, cX36, Int.reduceToNat, cI_inT, m5]
            refine ok_someI (Or.inr ⟨_, rfl, ?_⟩)
            have w : nxW T a b = if b = 0 then (chN T a (T 0 5).toNat).2 else (chN T a (T 0 5).toNat).1 := by
              unfold nxW
              by_cases z : T 0 5 = 0
              · rw [if_pos (Or.inl z), z]
                show (-1 : Int) = if b = 0 then -1 else -1
                split <;> rfl
              · rw [if_neg (by omega)]
            refine fin D2 _ _ r4' (fun k j a b => ?_) ((r5'.1 _ _ (by omega) (by omega) (by omega) (by omega)).trans d88) (r5'.2.trans q3.2) w
            by_cases e : k = 88 ∧ j = 30
            · obtain ⟨rfl, rfl⟩ := e
              exact r4'.2.2.2.2.2.1.trans hMS.2.2.2.2.2.1.symm
            · exact (r5'.1 k j (by unfold mScr at a; omega) (by unfold mScr at a; omega) e b).trans (fC k j a b)
    · refine hp_step (fc := f_X11_next (cI a) (cI b) D) (fm := fun D => f_X12_next (cI a) (cI b) D) (P := lawP) (C := rel T K L B) none (fun D x h => h) ?_ (fun D H => ?_)
      · unfold f_X11_next J_X11_next_21 J_X11_next_22
        simp (disch := omega) only [e_bi, e_bind, e_let, e_tr, e_tl, cLm1, cLm2, cL0, cL1, cL2, cL3, cL4, cL5, cL6, cL7, cL8, cL9, cL10, cL11, cL12, cL13, cL14, cL15, cL16, cL17, cL18, cL19, cL20, cL21, cL22, cL23, cL24, cL25, cL29, cL30, cL31, cL32, cL36, cL48, cL50, cL51, cL52, cL64, cL99, cL100, cL700, cL1000, cL9999, cL10000, cI_add, cI_sub, cI_mul, cI_neg, cI_lt, cI_le, cI_eq, ne_eq, ifp, ifn, bI_p, bI_n, aZ_0, aZ_1, aZ_b, e_gdt, e_ifT, e_ifF, not_true_eq_false, not_false_eq_true, e_gd, isBelow_eq, need_0]
        exact ok_someI ⟨rfl, H⟩
      · have H0 := H.code (x := cI 0)
        unfold f_X12_next
        by_cases z : b < 0
        · simp (disch := omega) only [e_bi, e_bind, e_let, e_tr, e_tl, cLm1, cLm2, cL0, cL1, cL2, cL3, cL4, cL5, cL6, cL7, cL8, cL9, cL10, cL11, cL12, cL13, cL14, cL15, cL16, cL17, cL18, cL19, cL20, cL21, cL22, cL23, cL24, cL25, cL29, cL30, cL31, cL32, cL36, cL48, cL50, cL51, cL52, cL64, cL99, cL100, cL700, cL1000, cL9999, cL10000, cI_add, cI_sub, cI_mul, cI_neg, cI_lt, cI_le, cI_eq, ne_eq, ifp, ifn, bI_p, bI_n, aZ_0, aZ_1, aZ_b, e_gdt, e_ifT, e_ifF, not_true_eq_false, not_false_eq_true, e_gd, isIn_eq, fail_eq]
          exact ok_someI ⟨gI_eq, rfl, T, K, L, B, H0.code⟩
        · simp (disch := omega) only [e_bi, e_bind, e_let, e_tr, e_tl, cLm1, cLm2, cL0, cL1, cL2, cL3, cL4, cL5, cL6, cL7, cL8, cL9, cL10, cL11, cL12, cL13, cL14, cL15, cL16, cL17, cL18, cL19, cL20, cL21, cL22, cL23, cL24, cL25, cL29, cL30, cL31, cL32, cL36, cL48, cL50, cL51, cL52, cL64, cL99, cL100, cL700, cL1000, cL9999, cL10000, cI_add, cI_sub, cI_mul, cI_neg, cI_lt, cI_le, cI_eq, ne_eq, ifp, ifn, bI_p, bI_n, aZ_0, aZ_1, aZ_b, e_gdt, e_ifT, e_ifF, not_true_eq_false, not_false_eq_true, e_gd, isIn_eq, fail_eq]
          exact ok_someI ⟨gI_eq, rfl, T, K, L, B, H0.code⟩
  · refine hp_step (fc := f_X11_next (cI a) (cI b) D) (fm := fun D => f_X12_next (cI a) (cI b) D) (P := lawP) (C := rel T K L B) none (fun D x h => h) ?_ (fun D H => ?_)
    · unfold f_X11_next J_X11_next_21 J_X11_next_22
      simp (disch := omega) only [e_bi, e_bind, e_let, e_tr, e_tl, cLm1, cLm2, cL0, cL1, cL2, cL3, cL4, cL5, cL6, cL7, cL8, cL9, cL10, cL11, cL12, cL13, cL14, cL15, cL16, cL17, cL18, cL19, cL20, cL21, cL22, cL23, cL24, cL25, cL29, cL30, cL31, cL32, cL36, cL48, cL50, cL51, cL52, cL64, cL99, cL100, cL700, cL1000, cL9999, cL10000, cI_add, cI_sub, cI_mul, cI_neg, cI_lt, cI_le, cI_eq, ne_eq, ifp, ifn, bI_p, bI_n, aZ_0, aZ_1, aZ_b, e_gdt, e_ifT, e_ifF, not_true_eq_false, not_false_eq_true, e_gd, isBelow_eq, need_0]
      exact ok_someI ⟨rfl, H⟩
    · have H0 := H.code (x := cI 0)
      unfold f_X12_next
      simp (disch := omega) only [e_bi, e_bind, e_let, e_tr, e_tl, cLm1, cLm2, cL0, cL1, cL2, cL3, cL4, cL5, cL6, cL7, cL8, cL9, cL10, cL11, cL12, cL13, cL14, cL15, cL16, cL17, cL18, cL19, cL20, cL21, cL22, cL23, cL24, cL25, cL29, cL30, cL31, cL32, cL36, cL48, cL50, cL51, cL52, cL64, cL99, cL100, cL700, cL1000, cL9999, cL10000, cI_add, cI_sub, cI_mul, cI_neg, cI_lt, cI_le, cI_eq, ne_eq, ifp, ifn, bI_p, bI_n, aZ_0, aZ_1, aZ_b, e_gdt, e_ifT, e_ifF, not_true_eq_false, not_false_eq_true, e_gd, isIn_eq, fail_eq]
      exact ok_someI ⟨gI_eq, rfl, T, K, L, B, H0.code⟩
end NX2
