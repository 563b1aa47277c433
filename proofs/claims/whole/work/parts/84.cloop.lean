/-! town: the class's reader, whole -/
section RDL
def lpX (B : Nat → Int) (N : Nat) : Nat → Nat → aX → aT → aX × aT
  | 0, _, x, T => (x, T)
  | k + 1, q, x, T => if x.1 = 0 ∧ kd B N x.2.2.1 ≠ 0 then lpX B N k (lnX B N (hdX B N x) q x T).1 (tkX B N (lnX B N (hdX B N x) q x T).2.1) (lnX B N (hdX B N x) q x T).2.2 else (x, T)
theorem lp_x {B : Nat → Int} {N k q : Nat} {x : aX} {T : aT} (h : ¬ (x.1 = 0 ∧ kd B N x.2.2.1 ≠ 0)) : lpX B N k q x T = (x, T) := by
  cases k with
  | zero => rfl
  | succ k => rw [lpX, if_neg h]
theorem lp_s {B : Nat → Int} {N k q : Nat} {x : aX} {T : aT} (h : x.1 = 0 ∧ kd B N x.2.2.1 ≠ 0) (hk : 0 < k) : lpX B N k q x T = lpX B N (k - 1) (lnX B N (hdX B N x) q x T).1 (tkX B N (lnX B N (hdX B N x) q x T).2.1) (lnX B N (hdX B N x) q x T).2.2 := by
  obtain ⟨m, rfl⟩ : ∃ m, k = m + 1 := ⟨k - 1, by omega⟩
  rw [lpX, if_pos h]
  rfl
def x0X : aX := (0, -1, 0, 0)
def rdX (B : Nat → Int) (N : Nat) : aX × aT := lpX B N (N + 1) 0 (tkX B N x0X) ctT
theorem kd_e {B : Nat → Int} {N : Nat} {x : aX} (w : wfX B N x) (h : kd B N x.2.2.1 ≠ 0) : x.2.2.1 < x.2.2.2 := by
  have a := en_b (B := B) w.2.2.1
  have b : ¬ (N ≤ x.2.2.1) := fun y => h (if_pos y)
  rw [w.2.2.2.1]
  exact a.2.2 (by omega)
theorem tk_lt {B : Nat → Int} {N : Nat} {x : aX} (w : wfX B N (tkX B N x)) (h0 : x.1 = 0) (he : x.2.2.2 ≤ N) (h : kd B N (tkX B N x).2.2.1 ≠ 0) : x.2.2.2 < (tkX B N x).2.2.2 := by
  have a := kd_e w h
  have e : (tkX B N x).2.2.1 = rnE B N bBk x.2.2.2 := by unfold tkX; rw [if_pos h0]
  have b := (rnB (B := B) (P := bBk) he).1
  omega
theorem wf_0 {B : Nat → Int} {N : Nat} : wfX B N (tkX B N x0X) := by
  have b := (rnB (B := B) (P := bBk) (Nat.zero_le N)).1
  exact ⟨Int.le_refl 0, by show (0 : Int) ≤ 5; omega, b.2, rfl, fun _ => rfl⟩
theorem creadl_ok {D : aD} {B : Nat → Int} {N : Nat} (h : RD D B N 0 (tkX B N x0X)) (hD : DP D ctT) : Ok (J_X7_read_46 0 D) (fun r => r.1 = cI (rdX B N).1.1 ∧ gI r.2 56 8 = cI (rdX B N).1.2.1 ∧ 0 ≤ (rdX B N).1.1 ∧ (rdX B N).1.1 ≤ 5 ∧ fD D r.2 ∧ ((rdX B N).1.1 = 0 → DP r.2 (rdX B N).2 ∧ TOKp (rdX B N).2 ∧ (rdX B N).1.2.1 = -1)) := by
  have hN := h.2.2.2.2.2.2.2.1.1
  unfold J_X7_read_46
  refine ok_bindI ((ok_lp (fun i t => t.1 = cI (i : Int) ∧ ∃ (q : Nat) (x : aX) (T : aT), lpX B N (N + 1 - i) q x T = rdX B N ∧ gI t.2 56 2 = cI (N : Int) ∧ gI t.2 56 7 = cI x.1 ∧ gI t.2 56 8 = cI x.2.1 ∧ 0 ≤ x.1 ∧ x.1 ≤ 5 ∧ fD D t.2 ∧ (x.1 = 0 → RD t.2 B N q x ∧ DP t.2 T ∧ TOKp T ∧ q < 128 ∧ (q = 0 ↔ i = 0) ∧ (q = 0 → T 0 4 = 0 ∧ T 0 5 = 0) ∧ (kd B N x.2.2.1 ≠ 0 → i < x.2.2.2))) N (by omega) ⟨rfl, 0, tkX B N x0X, ctT, rfl, h.1, h.2.2.2.2.2.1, h.2.2.2.2.2.2.1, wf_0.1, wf_0.2.1, fD.rf, fun _ => ⟨h, hD, ct_T, by omega, by omega, fun _ => ⟨rfl, rfl⟩, fun k => by have := kd_e wf_0 k; omega⟩⟩ ?_ (K := fun D' => gI D' 56 7 = cI (rdX B N).1.1 ∧ gI D' 56 8 = cI (rdX B N).1.2.1 ∧ 0 ≤ (rdX B N).1.1 ∧ (rdX B N).1.1 ≤ 5 ∧ fD D D' ∧ ((rdX B N).1.1 = 0 → DP D' (rdX B N).2 ∧ TOKp (rdX B N).2 ∧ (rdX B N).1.2.1 = -1))).mono ?_)
  · rintro i ⟨v, D1⟩ hi ⟨rfl, q, x, T, e, g2, g7, g8, r1, r2, gf, g⟩
    show Ok (B_X7_read_46 (cI (i : Int)) D1) _
    have g2' : gI D1 56 2 = cI (N : Int) := g2
    have g7' : gI D1 56 7 = cI x.1 := g7
    have g8' : gI D1 56 8 = cI x.2.1 := g8
    have gf' : fD D D1 := gf
    have fin : ¬ (x.1 = 0 ∧ kd B N x.2.2.1 ≠ 0) → (gI D1 56 7 = cI (rdX B N).1.1 ∧ gI D1 56 8 = cI (rdX B N).1.2.1 ∧ 0 ≤ (rdX B N).1.1 ∧ (rdX B N).1.1 ≤ 5 ∧ fD D D1 ∧ ((rdX B N).1.1 = 0 → DP D1 (rdX B N).2 ∧ TOKp (rdX B N).2 ∧ (rdX B N).1.2.1 = -1)) := fun y => by
      rw [lp_x y] at e
      rw [← e]
      exact ⟨g7', g8', r1, r2, gf', fun z => ⟨(g z).2.1, (g z).2.2.1, (g z).1.2.2.2.2.2.2.2.2.2.2.2.2 z⟩⟩
    unfold B_X7_read_46
    rw [g2', if_neg (show ¬ (cI (N : Int) < cI (i : Int)) by rw [cI_lt (by omega) (by omega) (by omega) (by omega)]; omega), g7']
    by_cases z : x.1 = 0
    · rw [if_neg (show ¬ (cI x.1 ≠ 0) by rw [z]; exact fun y => y rfl)]
      obtain ⟨h1, h2, h3, h4, h5, h6, h7⟩ := g z
      have h1' : RD D1 B N q x := h1
      have h2' : DP D1 T := h2
      have rk := kd_r B N x.2.2.1
      rw [h1'.2.1]
      by_cases y : kd B N x.2.2.1 = 0
      · rw [if_pos (show cI (kd B N x.2.2.1) = 0 by rw [y]; rfl)]
        exact ok_someI (Or.inr ⟨_, rfl, fin (fun w => w.2 y)⟩)
      · rw [if_neg (show ¬ (cI (kd B N x.2.2.1) = 0) by rw [cL0, cI_eq (by omega) (by omega) (by omega) (by omega)]; exact y)]
        have we := wf_e h1'.2.2.2.2.2.2.2.2
        have hi2 := h7 y
        have lq := ln_q (B := B) (N := N) (x := x) (T := T) (hdX B N x) h4
        have e' := e
        rw [lp_s ⟨z, y⟩ (by omega)] at e'
        have mo := mo_ln (B := B) (q := q) (x := x) (T := T) (hdX B N x) we.2
        have go : ∀ v : Int32, v = cI (if q = 0 then 1 else 0) → Ok (J_X7_read_78 (cI (i : Int)) v D1) (fun r => (∃ s', r = .inl s' ∧ i < N ∧ s'.1 = cI ((i + 1 : Nat) : Int) ∧ ∃ (q : Nat) (x : aX) (T : aT), lpX B N (N + 1 - (i + 1)) q x T = rdX B N ∧ gI s'.2 56 2 = cI (N : Int) ∧ gI s'.2 56 7 = cI x.1 ∧ gI s'.2 56 8 = cI x.2.1 ∧ 0 ≤ x.1 ∧ x.1 ≤ 5 ∧ fD D s'.2 ∧ (x.1 = 0 → RD s'.2 B N q x ∧ DP s'.2 T ∧ TOKp T ∧ q < 128 ∧ (q = 0 ↔ i + 1 = 0) ∧ (q = 0 → T 0 4 = 0 ∧ T 0 5 = 0) ∧ (kd B N x.2.2.1 ≠ 0 → i + 1 < x.2.2.2))) ∨ ∃ q, r = .inr q ∧ (gI q 56 7 = cI (rdX B N).1.1 ∧ gI q 56 8 = cI (rdX B N).1.2.1 ∧ 0 ≤ (rdX B N).1.1 ∧ (rdX B N).1.1 ≤ 5 ∧ fD D q ∧ ((rdX B N).1.1 = 0 → DP q (rdX B N).2 ∧ TOKp (rdX B N).2 ∧ (rdX B N).1.2.1 = -1))) := fun v hv => by
          unfold J_X7_read_78
          refine ok_bindI ((cline_ok h1' z h2' h3 h4 (fun w => (h6 w).1) hv).mono fun D2 k => ?_)
          obtain ⟨k1, k2, k3⟩ := k
          have lt := ln_t (B := B) (N := N) (q := q) (x := x) (T := T) (hdX B N x) h3 h6
          have kw := k1.2.2.2.2.2.2.2.2
          have ke := wf_e kw
          generalize lnX B N (hdX B N x) q x T = r at e' lq mo k1 k2 k3 lt kw ke
          obtain ⟨q', x', T'⟩ := r
          by_cases u : x'.1 = 0
          · refine ok_bindI ((takeX_ok k1 u).mono fun D3 k4 => ?_)
            rw [e_let]
            have u1 : (tkX B N x').1 = 0 := tk_1.trans u
            have w3 := k4.1.2.2.2.2.2.2.2.2
            refine ok_someI (Or.inl ⟨_, rfl, by omega, cI_add i 1, q', tkX B N x', T', by rw [← e']; rfl, k4.1.1, k4.1.2.2.2.2.2.1, k4.1.2.2.2.2.2.2.1, w3.1, w3.2.1, (gf'.tr k2).tr (fD.of k4.2), fun _ => ⟨k4.1, (k3 u).f5 ?_ k4.2, lt u, lq.1, ⟨fun w => absurd w lq.2, fun w => absurd w (by omega)⟩, fun w => absurd w lq.2, fun w => ?_⟩⟩)
            · have tt := (lt u).1
              show T' 0 2 ≤ 6
              have tt' : TOKp T' := lt u
              have := tt'.1
              omega
            · have a : x'.2.2.2 < (tkX B N x').2.2.2 := tk_lt w3 u ke.2 w
              have mo' : x.2.2.2 ≤ x'.2.2.2 := mo.1
              have hi3 : i < x.2.2.2 := hi2
              show i + 1 < (tkX B N x').2.2.2
              exact Nat.lt_of_lt_of_le (Nat.add_lt_add_right hi3 1) (Nat.le_trans (Nat.add_le_add_right mo' 1) a)
          · refine ok_bindI ((take_ok k1.1 k1.2.2.2.1 ke.2 k1.2.2.2.2.2.2.2.1).mono fun D3 k4 => ?_)
            obtain ⟨-, -, -, k5⟩ := k4
            rw [e_let]
            have e2 : tkX B N x' = x' := tk_f u
            refine ok_someI (Or.inl ⟨_, rfl, by omega, cI_add i 1, q', tkX B N x', T', by rw [← e']; rfl, (k5 _ _ (by omega)).trans k1.1, ?_, ?_, ?_, ?_, (gf'.tr k2).tr (fD.fr (fun k j a b => k5 k j (by omega))), fun w => absurd (tk_1.symm.trans w) u⟩)
            · rw [e2]; exact (k5 _ _ (by omega)).trans k1.2.2.2.2.2.1
            · rw [e2]; exact (k5 _ _ (by omega)).trans k1.2.2.2.2.2.2.1
            · rw [e2]; exact kw.1
            · rw [e2]; exact kw.2.1
        by_cases c : i = 0
        · rw [if_neg (show ¬ (cI (i : Int) ≠ 0) by rw [c]; exact fun y => y rfl)]
          exact go 1 (by rw [if_pos (h5.mpr c)]; rfl)
        · rw [if_pos (show cI (i : Int) ≠ 0 by rw [cL0, cI_ne (by omega) (by omega) (by omega) (by omega)]; omega)]
          exact go 0 (by rw [if_neg (fun w => c (h5.mp w))]; rfl)
    · rw [if_pos (show cI x.1 ≠ 0 by rw [cL0, cI_ne (by omega) (by omega) (by omega) (by omega)]; exact z)]
      exact ok_someI (Or.inr ⟨_, rfl, fin (fun w => z w.1)⟩)
  · rintro D1 ⟨k1, k2, k3, k4, k5, k6⟩
    unfold J_X7_read_91
    exact ok_someI ⟨k1, k2, k3, k4, k5, k6⟩
theorem cread_ok {D : aD} {B : Nat → Int} {N : Nat} (hB : BT D B N) : Ok (f_X7_read (cI (N : Int)) D) (fun r => r.1 = cI (rdX B N).1.1 ∧ gI r.2 56 8 = cI (rdX B N).1.2.1 ∧ 0 ≤ (rdX B N).1.1 ∧ (rdX B N).1.1 ≤ 5 ∧ fD D r.2 ∧ ((rdX B N).1.1 = 0 → DP r.2 (rdX B N).2 ∧ TOKp (rdX B N).2 ∧ (rdX B N).1.2.1 = -1)) := by
  have hN := hB.1
  unfold f_X7_read
  rw [if_neg (show ¬ (700 < cI (N : Int)) by rw [cL700, cI_lt (by omega) (by omega) (by omega) (by omega)]; omega), e_let, e_let, e_let, e_let, e_let]
  refine ok_bindI (clear21_ok.mono fun D1 k => ?_)
  have fr : ∀ k j : Nat, ¬ (21 ≤ k ∧ k ≤ 33) → k ≠ 56 → gI D1 k j = gI D k j := fun k' j a b => by
    rw [k.2 k' j a, gI_ne b, gI_ne b, gI_ne b, gI_ne b, gI_ne b]
  have v2 : gI D1 56 2 = cI (N : Int) := by
    rw [k.2 _ _ (by omega), gI_fr (by omega), gI_fr (by omega), gI_fr (by omega), gI_fr (by omega)]
    exact gI_eq
  have v5 : gI D1 56 5 = cI ((0 : Nat) : Int) := by
    rw [k.2 _ _ (by omega), gI_fr (by omega), gI_fr (by omega), gI_fr (by omega)]
    exact gI_eq
  have v6 : gI D1 56 6 = cI ((0 % 32 : Nat) : Int) := by
    rw [k.2 _ _ (by omega), gI_fr (by omega), gI_fr (by omega)]
    exact gI_eq
  have v7 : gI D1 56 7 = cI 0 := by
    rw [k.2 _ _ (by omega), gI_fr (by omega)]
    exact gI_eq
  have v8 : gI D1 56 8 = cI (-1) := by
    rw [k.2 _ _ (by omega)]
    exact gI_eq
  have hB1 : BT D1 B N := hB.fr (fun j => fr 1 j (by omega) (by omega))
  refine ok_bindI ((take_ok v2 v5 (Nat.zero_le N) hB1).mono fun D2 t => ?_)
  obtain ⟨t3, t4, t5, t6⟩ := t
  have h2 : RD D2 B N 0 (tkX B N x0X) := ⟨(t6 _ _ (by omega)).trans v2, t3, t4, t5, (t6 _ _ (by omega)).trans v6, (t6 _ _ (by omega)).trans v7, (t6 _ _ (by omega)).trans v8, hB1.fr (fun j => t6 _ j (by omega)), wf_0⟩
  refine (creadl_ok h2 (k.1.fr (by decide) (fun k' j _ _ _ _ _ => t6 k' j (by omega)))).mono fun r q => ?_
  obtain ⟨q1, q2, q3, q4, q5, q6⟩ := q
  exact ⟨q1, q2, q3, q4, ((fD.fr fr).tr (fD.fr (fun k' j a b => t6 k' j (by omega)))).tr q5, q6⟩
end RDL
