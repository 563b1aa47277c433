/-! town: the reference's answer -/
section MTW
theorem ct_v : ∀ i : Nat, i < 15 → ctT 0 i = (if i < 2 then 6 else if i < 6 then 0 else if i = 6 then 5 else if i < 9 then 2 else if i = 9 then 0 else 1) := by decide
theorem mini1_ok {D : aD} : Ok (aLp (fun s : Int32 × aD => B_X12_town_50 s.1 s.2) (cI 0, D)) (fun D' => (∀ j : Nat, j < 15 → gI D' 91 (16 + j) = cI (ctT 0 j)) ∧ (∀ k j : Nat, ¬ (k = 91 ∧ 16 ≤ j) → gI D' k j = gI D k j) ∧ D'.2 = D.2) := by
  refine ok_lp (fun i t => t.1 = cI (i : Int) ∧ (∀ j : Nat, j < i → j < 15 → gI t.2 91 (16 + j) = cI (ctT 0 j)) ∧ (∀ k j : Nat, ¬ (k = 91 ∧ 16 ≤ j) → gI t.2 k j = gI D k j) ∧ t.2.2 = D.2) 16 (by omega) ⟨rfl, fun j hj => absurd hj (by omega), fun _ _ _ => rfl, rfl⟩ ?_
  rintro i ⟨v, D1⟩ hi ⟨rfl, g1, g2, g3⟩
  show Ok (B_X12_town_50 (cI (i : Int)) D1) _
  have g1' : ∀ j : Nat, j < i → j < 15 → gI D1 91 (16 + j) = cI (ctT 0 j) := g1
  have g2' : ∀ k j : Nat, ¬ (k = 91 ∧ 16 ≤ j) → gI D1 k j = gI D k j := g2
  have g3' : D1.2 = D.2 := g3
  have e : ((16 : Int) + (i : Int)).toNat = 16 + i := by omega
  unfold B_X12_town_50
  by_cases c : i < 16
  · have nx : ∀ c : Int, (i < 15 → ctT 0 i = c) → Ok (some (Sum.inl (cI ((i : Int) + 1), pI D1 91 (16 + i) (cI c))) : Option ((Int32 × aD) ⊕ aD)) (fun r => (∃ s', r = .inl s' ∧ i < 16 ∧ s'.1 = cI ((i + 1 : Nat) : Int) ∧ (∀ j : Nat, j < i + 1 → j < 15 → gI s'.2 91 (16 + j) = cI (ctT 0 j)) ∧ (∀ k j : Nat, ¬ (k = 91 ∧ 16 ≤ j) → gI s'.2 k j = gI D k j) ∧ s'.2.2 = D.2) ∨ ∃ q, r = .inr q ∧ (∀ j : Nat, j < 15 → gI q 91 (16 + j) = cI (ctT 0 j)) ∧ (∀ k j : Nat, ¬ (k = 91 ∧ 16 ≤ j) → gI q k j = gI D k j) ∧ q.2 = D.2) := fun x hx => by
      refine ok_someI (Or.inl ⟨_, rfl, c, rfl, fun j hj hj2 => ?_, fun k j a => (gI_fr (by omega)).trans (g2' k j a), g3'⟩)
      by_cases y : j = i
      · subst y; rw [gI_eq, hx hj2]
      · exact (gI_fr (by omega)).trans (g1' j (by omega) hj2)
    have cv := ct_v i
    by_cases c1 : i < 2
    · simp (disch := omega) only [e_bi, e_bind, e_let, e_tr, e_tl, cLm1, cLm2, cL0, cL1, cL2, cL3, cL4, cL5, cL6, cL7, cL8, cL9, cL10, cL11, cL12, cL13, cL14, cL15, cL16, cL17, cL18, cL19, cL20, cL21, cL22, cL23, cL24, cL25, cL29, cL30, cL31, cL32, cL36, cL48, cL50, cL51, cL52, cL64, cL99, cL100, cL700, cL1000, cL9999, cL10000, cI_add, cI_sub, cI_mul, cI_neg, cI_lt, cI_le, cI_eq, ne_eq, ifp, ifn, bI_p, bI_n, aZ_0, aZ_1, aZ_b, e_gdt, e_ifT, e_ifF, not_true_eq_false, not_false_eq_true, e_gd, cI_inT, cI_nat, e]
      exact nx 6 (fun h => by rw [cv h, if_pos c1])
    · by_cases c2 : i < 6
      · simp (disch := omega) only [e_bi, e_bind, e_let, e_tr, e_tl, cLm1, cLm2, cL0, cL1, cL2, cL3, cL4, cL5, cL6, cL7, cL8, cL9, cL10, cL11, cL12, cL13, cL14, cL15, cL16, cL17, cL18, cL19, cL20, cL21, cL22, cL23, cL24, cL25, cL29, cL30, cL31, cL32, cL36, cL48, cL50, cL51, cL52, cL64, cL99, cL100, cL700, cL1000, cL9999, cL10000, cI_add, cI_sub, cI_mul, cI_neg, cI_lt, cI_le, cI_eq, ne_eq, ifp, ifn, bI_p, bI_n, aZ_0, aZ_1, aZ_b, e_gdt, e_ifT, e_ifF, not_true_eq_false, not_false_eq_true, e_gd, cI_inT, cI_nat, e]
        exact nx 0 (fun h => by rw [cv h, if_neg c1, if_pos c2])
      · by_cases c3 : i = 6
        · simp (disch := omega) only [e_bi, e_bind, e_let, e_tr, e_tl, cLm1, cLm2, cL0, cL1, cL2, cL3, cL4, cL5, cL6, cL7, cL8, cL9, cL10, cL11, cL12, cL13, cL14, cL15, cL16, cL17, cL18, cL19, cL20, cL21, cL22, cL23, cL24, cL25, cL29, cL30, cL31, cL32, cL36, cL48, cL50, cL51, cL52, cL64, cL99, cL100, cL700, cL1000, cL9999, cL10000, cI_add, cI_sub, cI_mul, cI_neg, cI_lt, cI_le, cI_eq, ne_eq, ifp, ifn, bI_p, bI_n, aZ_0, aZ_1, aZ_b, e_gdt, e_ifT, e_ifF, not_true_eq_false, not_false_eq_true, e_gd, cI_inT, cI_nat, e]
          exact nx 5 (fun h => by rw [cv h, if_neg c1, if_neg c2, if_pos c3])
        · by_cases c4 : i < 9
          · simp (disch := omega) only [e_bi, e_bind, e_let, e_tr, e_tl, cLm1, cLm2, cL0, cL1, cL2, cL3, cL4, cL5, cL6, cL7, cL8, cL9, cL10, cL11, cL12, cL13, cL14, cL15, cL16, cL17, cL18, cL19, cL20, cL21, cL22, cL23, cL24, cL25, cL29, cL30, cL31, cL32, cL36, cL48, cL50, cL51, cL52, cL64, cL99, cL100, cL700, cL1000, cL9999, cL10000, cI_add, cI_sub, cI_mul, cI_neg, cI_lt, cI_le, cI_eq, ne_eq, ifp, ifn, bI_p, bI_n, aZ_0, aZ_1, aZ_b, e_gdt, e_ifT, e_ifF, not_true_eq_false, not_false_eq_true, e_gd, cI_inT, cI_nat, e]
            exact nx 2 (fun h => by rw [cv h, if_neg c1, if_neg c2, if_neg c3, if_pos c4])
          · by_cases c5 : i = 9
            · simp (disch := omega) only [e_bi, e_bind, e_let, e_tr, e_tl, cLm1, cLm2, cL0, cL1, cL2, cL3, cL4, cL5, cL6, cL7, cL8, cL9, cL10, cL11, cL12, cL13, cL14, cL15, cL16, cL17, cL18, cL19, cL20, cL21, cL22, cL23, cL24, cL25, cL29, cL30, cL31, cL32, cL36, cL48, cL50, cL51, cL52, cL64, cL99, cL100, cL700, cL1000, cL9999, cL10000, cI_add, cI_sub, cI_mul, cI_neg, cI_lt, cI_le, cI_eq, ne_eq, ifp, ifn, bI_p, bI_n, aZ_0, aZ_1, aZ_b, e_gdt, e_ifT, e_ifF, not_true_eq_false, not_false_eq_true, e_gd, cI_inT, cI_nat, e]
              exact nx 0 (fun h => by rw [cv h, if_neg c1, if_neg c2, if_neg c3, if_neg c4, if_pos c5])
            · simp (disch := omega) only [e_bi, e_bind, e_let, e_tr, e_tl, cLm1, cLm2, cL0, cL1, cL2, cL3, cL4, cL5, cL6, cL7, cL8, cL9, cL10, cL11, cL12, cL13, cL14, cL15, cL16, cL17, cL18, cL19, cL20, cL21, cL22, cL23, cL24, cL25, cL29, cL30, cL31, cL32, cL36, cL48, cL50, cL51, cL52, cL64, cL99, cL100, cL700, cL1000, cL9999, cL10000, cI_add, cI_sub, cI_mul, cI_neg, cI_lt, cI_le, cI_eq, ne_eq, ifp, ifn, bI_p, bI_n, aZ_0, aZ_1, aZ_b, e_gdt, e_ifT, e_ifF, not_true_eq_false, not_false_eq_true, e_gd, cI_inT, cI_nat, e]
              exact nx 1 (fun h => by rw [cv h, if_neg c1, if_neg c2, if_neg c3, if_neg c4, if_neg c5])
  · obtain rfl : i = 16 := by omega
    rw [if_pos (show 16 ≤ cI ((16 : Nat) : Int) by decide)]
    exact ok_someI (Or.inr ⟨_, rfl, fun j hj => g1' j (by omega) hj, g2', g3'⟩)
theorem mini2_ok {D : aD} : Ok (aLp (fun s : Int32 × aD => B_X12_town_124 s.1 s.2) (cI 0, D)) (fun D' => (∀ j : Nat, j < 36 → gI D' 103 (36 + j) = cI 0) ∧ (∀ k j : Nat, ¬ (k = 103 ∧ 36 ≤ j) → gI D' k j = gI D k j) ∧ D'.2 = D.2) := by
  refine ok_lp (fun i t => t.1 = cI (i : Int) ∧ (∀ j : Nat, j < i → gI t.2 103 (36 + j) = cI 0) ∧ (∀ k j : Nat, ¬ (k = 103 ∧ 36 ≤ j) → gI t.2 k j = gI D k j) ∧ t.2.2 = D.2) 36 (by omega) ⟨rfl, fun j hj => absurd hj (by omega), fun _ _ _ => rfl, rfl⟩ ?_
  rintro i ⟨v, D1⟩ hi ⟨rfl, g1, g2, g3⟩
  show Ok (B_X12_town_124 (cI (i : Int)) D1) _
  have g1' : ∀ j : Nat, j < i → gI D1 103 (36 + j) = cI 0 := g1
  have g2' : ∀ k j : Nat, ¬ (k = 103 ∧ 36 ≤ j) → gI D1 k j = gI D k j := g2
  have g3' : D1.2 = D.2 := g3
  have e : ((36 : Int) + (i : Int)).toNat = 36 + i := by omega
  unfold B_X12_town_124
  by_cases c : i < 36
  · simp (disch := omega) only [e_bi, e_bind, e_let, e_tr, e_tl, cLm1, cLm2, cL0, cL1, cL2, cL3, cL4, cL5, cL6, cL7, cL8, cL9, cL10, cL11, cL12, cL13, cL14, cL15, cL16, cL17, cL18, cL19, cL20, cL21, cL22, cL23, cL24, cL25, cL29, cL30, cL31, cL32, cL36, cL48, cL50, cL51, cL52, cL64, cL99, cL100, cL700, cL1000, cL9999, cL10000, cI_add, cI_sub, cI_mul, cI_neg, cI_lt, cI_le, cI_eq, ne_eq, ifp, ifn, bI_p, bI_n, aZ_0, aZ_1, aZ_b, e_gdt, e_ifT, e_ifF, not_true_eq_false, not_false_eq_true, e_gd, cI_inT, cI_nat, e]
    refine ok_someI (Or.inl ⟨_, rfl, c, rfl, fun j hj => ?_, fun k j a => (gI_fr (by omega)).trans (g2' k j a), g3'⟩)
    by_cases y : j = i
    · subst y; exact gI_eq
    · exact (gI_fr (by omega)).trans (g1' j (by omega))
  · obtain rfl : i = 36 := by omega
    rw [if_pos (show 36 ≤ cI ((36 : Nat) : Int) by decide)]
    exact ok_someI (Or.inr ⟨_, rfl, fun j hj => g1' j hj, g2', g3'⟩)
theorem mk_0 {k : Int} (h : 0 ≤ k ∧ k ≤ 5) : (mkk k = 0 ↔ k = 0) ∧ 0 ≤ mkk k ∧ mkk k ≤ 5 := by
  unfold mkk
  repeat' split
  all_goals omega
theorem mloop_ok {D : aD} {B : Nat → Int} {N : Nat} (h : MC D B N (tkX B N x0X)) (hM : MH D ctT) (hO : gI D 90 0 = cI 20 ∧ gI D 90 1 = cI 9 ∧ gI D 90 2 = cI 14 ∧ gI D 90 3 = cI 99) : Ok (aLp (fun s : Int32 × aD => B_X12_town_152 s.1 s.2) (cI 0, D)) (fun D' => gI D' 88 25 = cI (rdX B N).1.1 ∧ ((rdX B N).1.1 ≠ 0 → gI D' 88 26 = cI (rdX B N).1.2.1) ∧ (0 ≤ (rdX B N).1.1 ∧ (rdX B N).1.1 ≤ 5) ∧ mF D D' ∧ ((rdX B N).1.1 = 0 → MH D' (rdX B N).2)) := by
  have hN := h.1.1
  refine ok_lp (fun i t => ∃ (q : Nat) (x : aX) (T : aT), t.1 = cI (q : Int) ∧ lpX B N (N + 1 - i) q x T = rdX B N ∧ q < 128 ∧ MC t.2 B N x ∧ mF D t.2 ∧ (x.1 = 0 → MH t.2 T ∧ TOKp T ∧ (q = 0 → T 0 4 = 0 ∧ T 0 5 = 0) ∧ (kd B N x.2.2.1 ≠ 0 → i < x.2.2.2))) N (by omega) ⟨0, tkX B N x0X, ctT, rfl, rfl, by omega, h, mF.rf, fun _ => ⟨hM, ct_T, fun _ => ⟨rfl, rfl⟩, fun k => by have := kd_e wf_0 k; omega⟩⟩ ?_
  rintro i ⟨v, D1⟩ hi ⟨q, x, T, e1, e, hq, g1, g2, g⟩
  obtain rfl : v = cI (q : Int) := e1
  show Ok (B_X12_town_152 (cI (q : Int)) D1) _
  have g1' : MC D1 B N x := g1
  have g2' : mF D D1 := g2
  have fin : ¬ (x.1 = 0 ∧ kd B N x.2.2.1 ≠ 0) → (gI D1 88 25 = cI (rdX B N).1.1 ∧ ((rdX B N).1.1 ≠ 0 → gI D1 88 26 = cI (rdX B N).1.2.1) ∧ (0 ≤ (rdX B N).1.1 ∧ (rdX B N).1.1 ≤ 5) ∧ mF D D1 ∧ ((rdX B N).1.1 = 0 → MH D1 (rdX B N).2)) := fun y => by
    rw [lp_x y] at e
    rw [← e]
    exact ⟨g1'.2.1, g1'.2.2.2.1, g1'.2.2.1, g2', fun z => (g z).1⟩
  unfold B_X12_town_152
  by_cases z : x.1 = 0
  · obtain ⟨h1, h2, h3, h4⟩ := g z
    have h1' : MH D1 T := h1
    obtain ⟨tk, w⟩ := g1'.2.2.2.2 z
    have rk := kd_r B N x.2.2.1
    have mk := mk_0 (k := kd B N x.2.2.1) rk
    rw [if_neg (show ¬ (gI D1 88 25 ≠ 0) by rw [ne_eq, bz g1']; exact fun y => y z), tk.2.2.2.1]
    by_cases y : kd B N x.2.2.1 = 0
    · rw [if_pos (show cI (mkk (kd B N x.2.2.1)) = 0 by rw [y]; rfl)]
      exact ok_someI (Or.inr ⟨_, rfl, fin (fun w => w.2 y)⟩)
    · rw [if_neg (show ¬ (cI (mkk (kd B N x.2.2.1)) = 0) by rw [cL0, cI_eq (by omega) (by omega) (by omega) (by omega)]; omega)]
      have we := wf_e w
      have hi2 : i < x.2.2.2 := h4 y
      have lq := ln_q (B := B) (N := N) (x := x) (T := T) (hdX B N x) hq
      have e' := e
      rw [lp_s ⟨z, y⟩ (by omega)] at e'
      have mo := mo_ln (B := B) (q := q) (x := x) (T := T) (hdX B N x) we.2
      have lt := ln_t (B := B) (N := N) (q := q) (x := x) (T := T) (hdX B N x) h2 h3
      have hO1 : gI D1 90 0 = cI 20 ∧ gI D1 90 1 = cI 9 ∧ gI D1 90 2 = cI 14 ∧ gI D1 90 3 = cI 99 := ⟨(g2'.1 _ _ (by omega) (by unfold mdr; omega)).trans hO.1, (g2'.1 _ _ (by omega) (by unfold mdr; omega)).trans hO.2.1, (g2'.1 _ _ (by omega) (by unfold mdr; omega)).trans hO.2.2.1, (g2'.1 _ _ (by omega) (by unfold mdr; omega)).trans hO.2.2.2⟩
      refine ok_biI ((mline_ok g1' z h1' h2 hq hO1).mono fun r k => ?_)
      obtain ⟨v, D2⟩ := r
      obtain ⟨k1, k2, k3, k4⟩ := k
      obtain rfl : v = _ := k1
      have k2' : MC D2 B N (tkX B N (lnX B N (hdX B N x) q x T).2.1) := k2
      have k3' : mF D1 D2 := k3
      have k4' : (lnX B N (hdX B N x) q x T).2.1.1 = 0 → MH D2 (lnX B N (hdX B N x) q x T).2.2 := k4
      refine ok_someI (Or.inl ⟨_, rfl, by omega, (lnX B N (hdX B N x) q x T).1, tkX B N (lnX B N (hdX B N x) q x T).2.1, (lnX B N (hdX B N x) q x T).2.2, rfl, by rw [← e']; rfl, lq.1, k2', g2'.tr k3', fun u => ?_⟩)
      have u1 : (lnX B N (hdX B N x) q x T).2.1.1 = 0 := tk_1.symm.trans u
      refine ⟨k4' u1, lt u1, fun w => absurd w lq.2, fun w => ?_⟩
      have a := tk_lt (k2'.2.2.2.2 u).2 u1 mo.2 w
      exact Nat.lt_of_lt_of_le (Nat.add_lt_add_right hi2 1) (Nat.le_trans (Nat.add_le_add_right mo.1 1) a)
  · rw [if_pos (show gI D1 88 25 ≠ 0 by rw [ne_eq, bz g1']; exact z)]
    exact ok_someI (Or.inr ⟨_, rfl, fin (fun w => z w.1)⟩)
theorem th_ok {D : aD} {a n : Nat} (h : Nat) (hn : n = 2 * h) (hh : h ≤ 1000) : Ok (f_X12_takeHalf a n D) (fun D' => (∀ j : Nat, j < h → gI D' a j = gI D a (h + j)) ∧ (∀ k j : Nat, ¬ (k = a ∧ j < h) → gI D' k j = gI D k j) ∧ D'.2 = D.2) := by
  subst hn
  have ed : (Int32.ofNat (2 * h)) / 2 = cI (h : Int) := by
    rw [ofNat_c, cL2, cI_div (by omega) (by omega) (by omega) (by omega)]
    congr 1
    omega
  unfold f_X12_takeHalf J_X12_takeHalf_2
  refine ok_bindI ((ok_lp (K := fun D' => (∀ j : Nat, j < h → gI D' a j = gI D a (h + j)) ∧ (∀ k j : Nat, ¬ (k = a ∧ j < h) → gI D' k j = gI D k j) ∧ D'.2 = D.2) (fun i t => t.1 = cI (i : Int) ∧ (∀ j : Nat, j < i → gI t.2 a j = gI D a (h + j)) ∧ (∀ k j : Nat, ¬ (k = a ∧ j < i) → gI t.2 k j = gI D k j) ∧ t.2.2 = D.2) h (by omega) ⟨rfl, fun j hj => absurd hj (by omega), fun _ _ _ => rfl, rfl⟩ ?_).mono ?_)
  · rintro i ⟨v, D1⟩ hi ⟨rfl, g1, g2, g3⟩
    show Ok (B_X12_takeHalf_2 a (2 * h) (cI (i : Int)) D1) _
    have g1' : ∀ j : Nat, j < i → gI D1 a j = gI D a (h + j) := g1
    have g2' : ∀ k j : Nat, ¬ (k = a ∧ j < i) → gI D1 k j = gI D k j := g2
    have g3' : D1.2 = D.2 := g3
    unfold B_X12_takeHalf_2
    rw [ed]
    by_cases c : i < h
    · have e1 : ((i : Int)).toNat = i := by omega
      have e2 : ((h : Int) + (i : Int)).toNat = h + i := by omega
      rw [if_neg (show ¬ (cI (h : Int) ≤ cI (i : Int)) by rw [cI_le (by omega) (by omega) (by omega) (by omega)]; omega), cI_add, e_gd (cI_inT (by omega) (by omega) (by omega)), e_gd (cI_inT (by omega) (by omega) (by omega)), e_let, e_let, cI_nat (by omega) (by omega), cI_nat (by omega) (by omega), e1, e2, g2' _ _ (by omega)]
      refine ok_someI (Or.inl ⟨_, rfl, c, cI_add i 1, fun j hj => ?_, fun k j x => (gI_fr (by omega)).trans (g2' k j (by omega)), g3'⟩)
      by_cases y : j = i
      · subst y; exact gI_eq
      · exact (gI_fr (by omega)).trans (g1' j (by omega))
    · obtain rfl : i = h := by omega
      rw [if_pos (show cI (i : Int) ≤ cI (i : Int) by rw [cI_le (by omega) (by omega) (by omega) (by omega)]; omega)]
      exact ok_someI (Or.inr ⟨_, rfl, g1', g2', g3'⟩)
  · rintro D1 k
    unfold J_X12_takeHalf_27
    exact ok_someI k
def hf (k : Nat) : Nat := if k = 91 then 16 else if k ≤ 98 then 6 else if k ≤ 101 then 13 else if k = 102 then 5 else 36
def thS (D : aD) (m : Nat) (D' : aD) : Prop := (∀ k j : Nat, 91 ≤ k → k < m → j < hf k → gI D' k j = gI D k (hf k + j)) ∧ (∀ k j : Nat, ¬ (91 ≤ k ∧ k < m ∧ j < hf k) → gI D' k j = gI D k j) ∧ D'.2 = D.2
theorem th_s {D D1 : aD} {n : Nat} (m : Nat) (hm : 91 ≤ m) (hn : n = 2 * hf m) (hS : thS D m D1) : Ok (f_X12_takeHalf m n D1) (fun D' => thS D (m + 1) D') := by
  obtain ⟨s1, s2, s3⟩ := hS
  have hh : hf m ≤ 1000 := by
    unfold hf
    repeat' split
    all_goals omega
  refine (th_ok (hf m) hn hh).mono fun D' k => ?_
  obtain ⟨k1, k2, k3⟩ := k
  refine ⟨fun k j a b c => ?_, fun k j a => ?_, k3.trans s3⟩
  · by_cases y : k = m
    · subst y
      rw [k1 j c]
      exact s2 _ _ (by omega)
    · rw [k2 _ _ (by omega)]
      exact s1 k j a (by omega) c
  · rw [k2 _ _ (by rintro ⟨rfl, z⟩; exact a ⟨hm, by omega, z⟩)]
    exact s2 _ _ (fun z => a ⟨z.1, by omega, z.2.2⟩)
theorem mtake_ok {D : aD} : Ok (f_X12_take D) (fun D' => (∀ k j : Nat, 91 ≤ k → k < 104 → j < hf k → gI D' k j = gI D k (hf k + j)) ∧ (∀ p : Nat, p < 13 → gI D' 106 p = cI 0) ∧ (∀ i : Nat, i < 5 → gI D' 107 i = cI (i : Int)) ∧ gI D' 88 30 = gI D 91 20 ∧ gI D' 88 31 = cI 12 ∧ gI D' 88 32 = cI 0 ∧ gI D' 88 33 = cI 0 ∧ gI D' 88 55 = cI 0 ∧ (∀ k j : Nat, ¬ (91 ≤ k ∧ k < 104) → k ≠ 106 → k ≠ 107 → ¬ (k = 88 ∧ ((30 ≤ j ∧ j ≤ 33) ∨ j = 55)) → gI D' k j = gI D k j) ∧ D'.2 = D.2) := by
  unfold f_X12_take
  refine ok_bindI ((th_s (D := D) (D1 := D) 91 (by omega) (by decide) ⟨fun k j a b => absurd b (by omega), fun _ _ _ => rfl, rfl⟩).mono fun D1 s1 => ?_)
  refine ok_bindI ((th_s 92 (by omega) (by decide) s1).mono fun D2 s2 => ?_)
  refine ok_bindI ((th_s 93 (by omega) (by decide) s2).mono fun D3 s3 => ?_)
  refine ok_bindI ((th_s 94 (by omega) (by decide) s3).mono fun D4 s4 => ?_)
  refine ok_bindI ((th_s 95 (by omega) (by decide) s4).mono fun D5 s5 => ?_)
  refine ok_bindI ((th_s 96 (by omega) (by decide) s5).mono fun D6 s6 => ?_)
  refine ok_bindI ((th_s 97 (by omega) (by decide) s6).mono fun D7 s7 => ?_)
  refine ok_bindI ((th_s 98 (by omega) (by decide) s7).mono fun D8 s8 => ?_)
  refine ok_bindI ((th_s 99 (by omega) (by decide) s8).mono fun D9 s9 => ?_)
  refine ok_bindI ((th_s 100 (by omega) (by decide) s9).mono fun D10 s10 => ?_)
  refine ok_bindI ((th_s 101 (by omega) (by decide) s10).mono fun D11 s11 => ?_)
  refine ok_bindI ((th_s 102 (by omega) (by decide) s11).mono fun D12 s12 => ?_)
  refine ok_bindI ((th_s 103 (by omega) (by decide) s12).mono fun D13 s13 => ?_)
  clear s1 s2 s3 s4 s5 s6 s7 s8 s9 s10 s11 s12
  obtain ⟨t1, t2, t3⟩ := s13
  unfold J_X12_take_93
  refine ok_bindI ((ok_lp (K := fun D' => (∀ j : Nat, j < 13 → gI D' 106 j = cI 0) ∧ (∀ k j : Nat, k ≠ 106 → gI D' k j = gI D13 k j) ∧ D'.2 = D13.2) (fun i t => t.1 = cI (i : Int) ∧ (∀ j : Nat, j < i → gI t.2 106 j = cI 0) ∧ (∀ k j : Nat, k ≠ 106 → gI t.2 k j = gI D13 k j) ∧ t.2.2 = D13.2) 13 (by omega) ⟨rfl, fun j hj => absurd hj (by omega), fun _ _ _ => rfl, rfl⟩ ?_).mono ?_)
  · rintro i ⟨v, D1⟩ hi ⟨rfl, g1, g2, g3⟩
    show Ok (B_X12_take_93 (cI (i : Int)) D1) _
    have g1' : ∀ j : Nat, j < i → gI D1 106 j = cI 0 := g1
    have g2' : ∀ k j : Nat, k ≠ 106 → gI D1 k j = gI D13 k j := g2
    have g3' : D1.2 = D13.2 := g3
    unfold B_X12_take_93
    by_cases c : i < 13
    · have e1 : ((i : Int)).toNat = i := by omega
      rw [if_neg (show ¬ (12 < cI (i : Int)) by rw [cL12, cI_lt (by omega) (by omega) (by omega) (by omega)]; omega), e_gd (cI_inT (by omega) (by omega) (by omega)), e_let, e_let, cI_nat (by omega) (by omega), e1]
      refine ok_someI (Or.inl ⟨_, rfl, c, cI_add i 1, fun j hj => ?_, fun k j x => (gI_fr (by omega)).trans (g2' k j (by omega)), g3'⟩)
      by_cases y : j = i
      · subst y; exact gI_eq
      · exact (gI_fr (by omega)).trans (g1' j (by omega))
    · obtain rfl : i = 13 := by omega
      rw [if_pos (show 12 < cI ((13 : Nat) : Int) by decide)]
      exact ok_someI (Or.inr ⟨_, rfl, g1', g2', g3'⟩)
  · rintro D14 ⟨a1, a2, a3⟩
    unfold J_X12_take_112 J_X12_take_114
    refine ok_bindI ((ok_lp (K := fun D' => (∀ j : Nat, j < 5 → gI D' 107 j = cI (j : Int)) ∧ (∀ k j : Nat, k ≠ 107 → gI D' k j = gI D14 k j) ∧ D'.2 = D14.2) (fun i t => t.1 = cI (i : Int) ∧ (∀ j : Nat, j < i → gI t.2 107 j = cI (j : Int)) ∧ (∀ k j : Nat, k ≠ 107 → gI t.2 k j = gI D14 k j) ∧ t.2.2 = D14.2) 5 (by omega) ⟨rfl, fun j hj => absurd hj (by omega), fun _ _ _ => rfl, rfl⟩ ?_).mono ?_)
    · rintro i ⟨v, D1⟩ hi ⟨rfl, g1, g2, g3⟩
      show Ok (B_X12_take_114 (cI (i : Int)) D1) _
      have g1' : ∀ j : Nat, j < i → gI D1 107 j = cI (j : Int) := g1
      have g2' : ∀ k j : Nat, k ≠ 107 → gI D1 k j = gI D14 k j := g2
      have g3' : D1.2 = D14.2 := g3
      unfold B_X12_take_114
      by_cases c : i < 5
      · have e1 : ((i : Int)).toNat = i := by omega
        rw [if_neg (show ¬ (5 ≤ cI (i : Int)) by rw [cL5, cI_le (by omega) (by omega) (by omega) (by omega)]; omega), e_gd (cI_inT (by omega) (by omega) (by omega)), e_let, e_let, cI_nat (by omega) (by omega), e1]
        refine ok_someI (Or.inl ⟨_, rfl, c, cI_add i 1, fun j hj => ?_, fun k j x => (gI_fr (by omega)).trans (g2' k j (by omega)), g3'⟩)
        by_cases y : j = i
        · subst y; exact gI_eq
        · exact (gI_fr (by omega)).trans (g1' j (by omega))
      · obtain rfl : i = 5 := by omega
        rw [if_pos (show 5 ≤ cI ((5 : Nat) : Int) by decide)]
        exact ok_someI (Or.inr ⟨_, rfl, g1', g2', g3'⟩)
    · rintro D15 ⟨b1, b2, b3⟩
      unfold J_X12_take_132
      have all : ∀ k j : Nat, k ≠ 88 → k ≠ 106 → k ≠ 107 → gI (pI (pI (pI (pI (pI D15 88 30 (gI D15 91 (4 : Int32).toNatClampNeg)) 88 31 12) 88 32 0) 88 33 0) 88 55 0) k j = gI D13 k j := fun k j x y z => by
        rw [gI_ne x, gI_ne x, gI_ne x, gI_ne x, gI_ne x, b2 _ _ z]
        exact a2 _ _ y
      have a88 : ∀ j : Nat, ¬ ((30 ≤ j ∧ j ≤ 33) ∨ j = 55) → gI (pI (pI (pI (pI (pI D15 88 30 (gI D15 91 (4 : Int32).toNatClampNeg)) 88 31 12) 88 32 0) 88 33 0) 88 55 0) 88 j = gI D13 88 j := fun j x => by
        rw [gI_fr (by omega), gI_fr (by omega), gI_fr (by omega), gI_fr (by omega), gI_fr (by omega), b2 _ _ (by omega)]
        exact a2 _ _ (by omega)
      rw [e_gd (by decide), e_let, e_let, e_let, e_let, e_let]
      refine ok_someI ⟨fun k j x y w => ?_, fun p hp => ?_, fun i hi => ?_, ?_, ?_, ?_, ?_, gI_eq, fun k j x y z w => ?_, ((show _ = D15.2 from rfl).trans b3).trans (a3.trans t3)⟩
      · rw [all k j (by omega) (by omega) (by omega)]
        exact t1 k j x y w
      · rw [gI_ne (by omega), gI_ne (by omega), gI_ne (by omega), gI_ne (by omega), gI_ne (by omega), b2 _ _ (by omega)]
        exact a1 p hp
      · rw [gI_ne (by omega), gI_ne (by omega), gI_ne (by omega), gI_ne (by omega), gI_ne (by omega)]
        exact b1 i hi
      · rw [gI_fr (by omega), gI_fr (by omega), gI_fr (by omega), gI_fr (by omega), gI_eq, show (4 : Int32).toNatClampNeg = 4 from rfl, b2 _ _ (by omega), a2 _ _ (by omega)]
        exact t1 91 4 (by omega) (by omega) (by decide)
      · rw [gI_fr (by omega), gI_fr (by omega), gI_fr (by omega)]; exact gI_eq
      · rw [gI_fr (by omega), gI_fr (by omega)]; exact gI_eq
      · rw [gI_fr (by omega)]; exact gI_eq
      · by_cases u : k = 88
        · subst u
          rw [a88 j (by omega)]
          exact t2 _ _ (by omega)
        · rw [all k j u y z]
          exact t2 _ _ (by omega)
end MTW
