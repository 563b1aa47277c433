/-! best: the class's steps -/
section STP
theorem rw_bd {B : Nat} : ∀ (ms : List (Nat × Nat)) (H X : Nat → Int), (∀ q : Nat × Nat, q ∈ ms → q.2 ≤ B + 1) → (∀ p : Nat, 0 ≤ H p ∧ H p ≤ B) → X ∈ rwF ms H → (∀ p : Nat, 0 ≤ X p ∧ X p ≤ B) ∧ ∀ p : Nat, (∀ q : Nat × Nat, q ∈ ms → q.1 ≠ p) → X p = H p
  | [], H, X, _, hH, h => by
    have e : X = H := List.mem_singleton.mp h
    subst e
    exact ⟨hH, fun _ _ => rfl⟩
  | (m, c) :: ms, H, X, hc, hH, h => by
    rw [rwF, List.mem_flatMap] at h
    obtain ⟨v, v1, v2⟩ := h
    have vc : v < c := List.mem_range.mp v1
    have cb : c ≤ B + 1 := hc (m, c) (by simp)
    have k := rw_bd ms (upH H m v) X (fun q hq => hc q (by simp [hq])) (fun p => by
      by_cases y : p = m
      · subst y; rw [upH_eq]; omega
      · rw [upH_o y]; exact hH p) v2
    exact ⟨k.1, fun p hp => (k.2 p (fun q hq => hp q (by simp [hq]))).trans (upH_o (Ne.symm (hp (m, c) (by simp))))⟩
theorem rw_len : ∀ (ms : List (Nat × Nat)) (H : Nat → Int), (∀ q : Nat × Nat, q ∈ ms → q.2 ≤ 3) → (rwF ms H).length ≤ 3 ^ ms.length
  | [], H, _ => by simp [rwF]
  | (m, c) :: ms, H, hc => by
    have cb : c ≤ 3 := hc (m, c) (by simp)
    have key : ∀ n : Nat, ((List.range n).flatMap (fun v : Nat => rwF ms (upH H m v))).length ≤ n * 3 ^ ms.length := by
      intro n
      induction n with
      | zero => simp
      | succ n ih =>
        rw [List.range_succ, List.flatMap_append, List.length_append, Nat.add_mul, Nat.one_mul]
        have k := rw_len ms (upH H m n) (fun q hq => hc q (by simp [hq]))
        simp only [List.flatMap_cons, List.flatMap_nil, List.append_nil]
        omega
    have k := key c
    have k2 : c * 3 ^ ms.length ≤ 3 * 3 ^ ms.length := Nat.mul_le_mul cb (Nat.le_refl _)
    show ((List.range c).flatMap (fun v : Nat => rwF ms (upH H m v))).length ≤ 3 ^ (ms.length + 1)
    rw [Nat.pow_succ]
    omega
theorem nx_up {X : Nat → Int} {ms : List (Nat × Nat)} {H : Nat → Int} : ∀ j : Nat, nxS (ms.drop j) H = (true, X) → nxS ms H = (true, X)
  | 0, h => h
  | j + 1, h => by
    refine nx_up j ?_
    by_cases z : j < ms.length
    · rw [List.drop_eq_getElem_cons z]
      match ms[j], h with
      | (m, c), h =>
        rw [nxS, h, if_pos rfl]
    · rw [List.drop_eq_nil_of_le (by omega)] at h ⊢
      exact h
theorem cw_b {T : aT} {p : Nat} (h : 0 ≤ T 7 (T 8 p).toNat ∧ T 7 (T 8 p).toNat ≤ 1) : 0 < cwN T p ∧ cwN T p ≤ 3 := by
  by_cases s : smE T p
  · rw [cw_p s]; unfold wyN; omega
  · rw [cw_n s]; omega
theorem stepW_ok {D : aD} {T : aT} {H H0 : Nat → Int} {l : List Nat} (hl : l.length ≤ 6) (hin : ∀ p : Nat, p ∈ l → (p : Int) < T 0 4) (hP : T 0 4 ≤ 12) (hcw : ∀ p : Nat, p ∈ l → 0 < cwN T p ∧ cwN T p ≤ 3) (hK : CK D (hwT T H) (wOn T)) (hL : lsD D T H0 l) (hH : ∀ p : Nat, 0 ≤ H p ∧ H p ≤ 2) :
    Ok (f_X3_stepWay D) (fun r => r.1 = cI (if (nxS (mcN T l) H).1 then 1 else 0) ∧ CK r.2 (hwT T (nxS (mcN T l) H).2) (wOn T) ∧ ∀ k j : Nat, k ≠ 63 → gI r.2 k j = gI D k j) := by
  have c68 := hL.1.1
  have ml : (mcN T l).length = l.length := by unfold mcN; rw [List.length_map]
  unfold f_X3_stepWay
  rw [e_let, c68, show cI (l.length : Int) - 1 = cI ((l.length : Int) - 1) from cI_sub l.length 1]
  unfold J_X3_stepWay_7
  refine ok_bindI (ok_lp (K := fun r => (∃ (i p : Nat) (D' : aD) (X : Nat → Int), r = .inl (cI (i : Int), D') ∧ l[i]? = some p ∧ nxS (mcN T l) H = (true, upH X p (X p + 1)) ∧ (0 ≤ X p ∧ X p ≤ 2) ∧ CK D' (hwT T X) (wOn T) ∧ ∀ k j : Nat, k ≠ 63 → gI D' k j = gI D k j) ∨ (∃ D' : aD, r = .inr D' ∧ (nxS (mcN T l) H).1 = false ∧ CK D' (hwT T (nxS (mcN T l) H).2) (wOn T) ∧ ∀ k j : Nat, k ≠ 63 → gI D' k j = gI D k j))
    (fun t s => ∃ (i : Nat) (X : Nat → Int), i + t = l.length ∧ s.1 = cI ((i : Int) - 1) ∧ nxS ((mcN T l).drop i) H = (false, X) ∧ (∀ p : Nat, 0 ≤ X p ∧ X p ≤ 2) ∧ CK s.2 (hwT T X) (wOn T) ∧ ∀ k j : Nat, k ≠ 63 → gI s.2 k j = gI D k j) l.length (by omega)
    ⟨l.length, H, rfl, rfl, by rw [List.drop_eq_nil_of_le (by omega)]; rfl, hH, hK, fun _ _ _ => rfl⟩ ?_ |>.mono ?_)
  · rintro t ⟨x, D1⟩ ht ⟨i, X, q1, q2, q3, q4, q5, q6⟩
    obtain rfl : x = cI ((i : Int) - 1) := q2
    have q6' : ∀ k j : Nat, k ≠ 63 → gI D1 k j = gI D k j := q6
    show Ok (B_X3_stepWay_7 (cI ((i : Int) - 1)) D1) _
    unfold B_X3_stepWay_7
    by_cases c : i = 0
    · subst c
      rw [if_pos (show cI (((0 : Nat) : Int) - 1) < 0 by decide)]
      have q3' : nxS (mcN T l) H = (false, X) := q3
      refine ok_someI (Or.inr ⟨_, rfl, Or.inr ⟨D1, rfl, by rw [q3'], ?_, q6⟩⟩)
      rw [q3']
      exact q5
    · obtain ⟨m, rfl⟩ : ∃ m, i = m + 1 := ⟨i - 1, by omega⟩
      have e : ((m + 1 : Nat) : Int) - 1 = (m : Int) := by omega
      have lt : m < l.length := by omega
      have gl := List.getElem?_eq_getElem lt
      have dr : (mcN T l).drop m = (l[m], cwN T l[m]) :: (mcN T l).drop (m + 1) := by
        rw [List.drop_eq_getElem_cons (by omega)]
        unfold mcN
        rw [List.getElem_map]
      generalize l[m] = p at gl dr
      have pm := List.mem_of_getElem? gl
      have pP := hin p pm
      have cb := hcw p pm
      have Xp := q4 p
      have e1 : ((m : Int)).toNat = m := by omega
      have e2 : ((p : Int)).toNat = p := by omega
      have c69 : gI D1 69 m = cI (p : Int) := (q6' _ _ (by omega)).trans (hL.1.2 m p gl)
      have c70 : gI D1 70 m = cI ((cwN T p : Nat) : Int) := (q6' _ _ (by omega)).trans (hL.2 m p gl).1
      have c63 : gI D1 63 p = cI (X p) := by
        have k := (q5.2.1 p (by rw [hw_o (by omega)]; exact pP)).2.2
        exact k
      rw [e]
      by_cases z : X p + 1 < ((cwN T p : Nat) : Int)
      · have nx : nxS ((mcN T l).drop m) H = (true, upH X p (X p + 1)) := by
          rw [dr, nxS, q3, if_neg (show ¬ (((false, X) : Bool × (Nat → Int)).1 = true) from Bool.false_ne_true), if_pos z]
        simp (disch := omega) only [e_bi, e_bind, e_let, e_tr, e_tl, cLm1, cLm2, cL0, cL1, cL2, cL3, cL4, cL5, cL6, cL7, cL8, cL9, cL10, cL11, cL12, cL13, cL14, cL15, cL16, cL17, cL18, cL19, cL20, cL21, cL22, cL23, cL24, cL25, cL29, cL30, cL31, cL32, cL36, cL48, cL50, cL51, cL52, cL64, cL99, cL100, cL700, cL1000, cL9999, cL10000, cI_add, cI_sub, cI_mul, cI_neg, cI_lt, cI_le, cI_eq, ne_eq, ifp, ifn, bI_p, bI_n, aZ_0, aZ_1, aZ_b, e_gdt, e_ifT, e_ifF, not_true_eq_false, not_false_eq_true, e_gd, cI_inT, cI_nat, e1, e2, c69, c70, c63]
        exact ok_someI (Or.inr ⟨_, rfl, Or.inl ⟨m, p, D1, X, rfl, gl, nx_up m nx, Xp, q5, q6⟩⟩)
      · have nx : nxS ((mcN T l).drop m) H = (false, upH X p 0) := by
          rw [dr, nxS, q3, if_neg (show ¬ (((false, X) : Bool × (Nat → Int)).1 = true) from Bool.false_ne_true), if_neg z]
        simp (disch := omega) only [e_bi, e_bind, e_let, e_tr, e_tl, cLm1, cLm2, cL0, cL1, cL2, cL3, cL4, cL5, cL6, cL7, cL8, cL9, cL10, cL11, cL12, cL13, cL14, cL15, cL16, cL17, cL18, cL19, cL20, cL21, cL22, cL23, cL24, cL25, cL29, cL30, cL31, cL32, cL36, cL48, cL50, cL51, cL52, cL64, cL99, cL100, cL700, cL1000, cL9999, cL10000, cI_add, cI_sub, cI_mul, cI_neg, cI_lt, cI_le, cI_eq, ne_eq, ifp, ifn, bI_p, bI_n, aZ_0, aZ_1, aZ_b, e_gdt, e_ifT, e_ifF, not_true_eq_false, not_false_eq_true, e_gd, cI_inT, cI_nat, e1, e2, c69, c70, c63]
        refine ok_someI (Or.inl ⟨_, rfl, by omega, m, upH X p 0, by omega, rfl, nx, fun q => ?_, CK_up q5, fun k j a => (gI_fr (by omega)).trans (q6' k j a)⟩)
        by_cases y : q = p
        · subst y; rw [upH_eq]; omega
        · rw [upH_o y]; exact q4 q
  · rintro r (⟨i, p, D', X, rfl, gl, nx, Xp, k1, k2⟩ | ⟨D', rfl, nx, k1, k2⟩)
    · have lt := (List.getElem?_eq_some_iff.mp gl).1
      have pP := hin p (List.mem_of_getElem? gl)
      have e1 : ((i : Int)).toNat = i := by omega
      have e2 : ((p : Int)).toNat = p := by omega
      have c69 : gI D' 69 i = cI (p : Int) := (k2 _ _ (by omega)).trans (hL.1.2 i p gl)
      have c63 : gI D' 63 p = cI (X p) := (k1.2.1 p (by rw [hw_o (by omega)]; exact pP)).2.2
      show Ok (J_X3_stepWay_36 (cI (i : Int)) D') _
      unfold J_X3_stepWay_36
      simp (disch := omega) only [e_bi, e_bind, e_let, e_tr, e_tl, cLm1, cLm2, cL0, cL1, cL2, cL3, cL4, cL5, cL6, cL7, cL8, cL9, cL10, cL11, cL12, cL13, cL14, cL15, cL16, cL17, cL18, cL19, cL20, cL21, cL22, cL23, cL24, cL25, cL29, cL30, cL31, cL32, cL36, cL48, cL50, cL51, cL52, cL64, cL99, cL100, cL700, cL1000, cL9999, cL10000, cI_add, cI_sub, cI_mul, cI_neg, cI_lt, cI_le, cI_eq, ne_eq, ifp, ifn, bI_p, bI_n, aZ_0, aZ_1, aZ_b, e_gdt, e_ifT, e_ifF, not_true_eq_false, not_false_eq_true, e_gd, cI_inT, cI_nat, e1, e2, c69, c63]
      refine ok_someI ⟨?_, ?_, fun k j a => (gI_fr (by omega)).trans (k2 k j a)⟩
      · rw [nx]; rfl
      · rw [nx]; exact CK_up k1
    · show Ok (J_X3_stepWay_77 D') _
      unfold J_X3_stepWay_77
      refine ok_someI ⟨?_, k1, k2⟩
      rw [nx]; rfl
theorem keepR_ok {D : aD} {T : aT} {H H0 : Nat → Int} {l : List Nat} (hl : l.length ≤ 6) (hin : ∀ p : Nat, p ∈ l → (p : Int) < T 0 4) (hP : T 0 4 ≤ 12) (hK : CK D (hwT T H) (wOn T)) (hL : lsD D T H0 l) :
    Ok (f_X3_keepRow D) (fun D' => (∀ i p : Nat, l[i]? = some p → gI D' 72 i = cI (H p)) ∧ ∀ k j : Nat, k ≠ 72 → gI D' k j = gI D k j) := by
  unfold f_X3_keepRow J_X3_keepRow_2
  refine ok_bindI (ok_lp (fun i t => t.1 = cI (i : Int) ∧ (∀ a p : Nat, a < i → l[a]? = some p → gI t.2 72 a = cI (H p)) ∧ ∀ k j : Nat, k ≠ 72 → gI t.2 k j = gI D k j) l.length (by omega) ⟨rfl, fun a p h => absurd h (by omega), fun _ _ _ => rfl⟩ ?_)
  rintro i ⟨x, D1⟩ hi ⟨rfl, g1, g2⟩
  show Ok (B_X3_keepRow_2 (cI (i : Int)) D1) _
  have g2' : ∀ k j : Nat, k ≠ 72 → gI D1 k j = gI D k j := g2
  have c68 : gI D1 68 2 = cI (l.length : Int) := (g2' _ _ (by omega)).trans hL.1.1
  unfold B_X3_keepRow_2
  by_cases c : i < l.length
  · have gl := List.getElem?_eq_getElem c
    generalize l[i] = p at gl
    have pP := hin p (List.mem_of_getElem? gl)
    have e1 : ((i : Int)).toNat = i := by omega
    have e2 : ((p : Int)).toNat = p := by omega
    have c69 : gI D1 69 i = cI (p : Int) := (g2' _ _ (by omega)).trans (hL.1.2 i p gl)
    have c63 : gI D1 63 p = cI (H p) := (g2' _ _ (by omega)).trans (hK.2.1 p (by rw [hw_o (by omega)]; exact pP)).2.2
    simp (disch := omega) only [e_bi, e_bind, e_let, e_tr, e_tl, cLm1, cLm2, cL0, cL1, cL2, cL3, cL4, cL5, cL6, cL7, cL8, cL9, cL10, cL11, cL12, cL13, cL14, cL15, cL16, cL17, cL18, cL19, cL20, cL21, cL22, cL23, cL24, cL25, cL29, cL30, cL31, cL32, cL36, cL48, cL50, cL51, cL52, cL64, cL99, cL100, cL700, cL1000, cL9999, cL10000, cI_add, cI_sub, cI_mul, cI_neg, cI_lt, cI_le, cI_eq, ne_eq, ifp, ifn, bI_p, bI_n, aZ_0, aZ_1, aZ_b, e_gdt, e_ifT, e_ifF, not_true_eq_false, not_false_eq_true, e_gd, cI_inT, cI_nat, e1, e2, c68, c69, c63]
    refine ok_someI (Or.inl ⟨_, rfl, c, rfl, fun a q ha h => ?_, fun k j b => (gI_fr (by omega)).trans (g2' k j b)⟩)
    show gI (pI D1 72 i (cI (H p))) 72 a = _
    by_cases y : a = i
    · subst y
      rw [gl] at h
      cases h
      exact gI_eq
    · rw [gI_fr (by omega)]; exact g1 a q (by omega) h
  · obtain rfl : i = l.length := by omega
    simp (disch := omega) only [e_bi, e_bind, e_let, e_tr, e_tl, cLm1, cLm2, cL0, cL1, cL2, cL3, cL4, cL5, cL6, cL7, cL8, cL9, cL10, cL11, cL12, cL13, cL14, cL15, cL16, cL17, cL18, cL19, cL20, cL21, cL22, cL23, cL24, cL25, cL29, cL30, cL31, cL32, cL36, cL48, cL50, cL51, cL52, cL64, cL99, cL100, cL700, cL1000, cL9999, cL10000, cI_add, cI_sub, cI_mul, cI_neg, cI_lt, cI_le, cI_eq, ne_eq, ifp, ifn, bI_p, bI_n, aZ_0, aZ_1, aZ_b, e_gdt, e_ifT, e_ifF, not_true_eq_false, not_false_eq_true, e_gd, c68]
    exact ok_someI (Or.inr ⟨_, rfl, ok_someI ⟨fun a p h => g1 a p (List.getElem?_eq_some_iff.mp h).1 h, g2⟩⟩)
end STP
