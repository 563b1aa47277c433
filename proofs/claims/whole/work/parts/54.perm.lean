/-! fair: the orders of gates one after another -/
section PRM
def lfN (l : List Nat) (i : Nat) : Int := ((l.getD i 0 : Nat) : Int)
def prL (n : Nat) : Nat → List Nat → List (List Nat)
  | 0, pre => [pre]
  | m + 1, pre => ((List.range n).filter (fun v => !(pre.contains v))).flatMap (fun v => prL n m (pre ++ [v]))
def exF (r : Nat → Int) (a b : Nat) (k : Nat) : Int := if k = b then r a else if k = a then r b else r k
def upF (r : Nat → Int) : Nat → Nat
  | 0 => 0
  | k + 1 => if r k ≤ r (k + 1) then k + 1 else upF r k
def dnF (r : Nat → Int) (i : Nat) : Nat → Nat
  | 0 => i
  | d + 1 => if r i ≤ r (i + d + 1) then i + d + 1 else dnF r i d
def rvF (r : Nat → Int) : Nat → Nat → Nat → (Nat → Int)
  | _, _, 0 => r
  | lo, hi, m + 1 => if lo < hi then rvF (exF r lo hi) (lo + 1) (hi - 1) m else r
/-- the next order: upF is 1 more than where the row goes up last -/
def stF (n : Nat) (r : Nat → Int) : Nat → Int := rvF (exF r (upF r (n - 1) - 1) (dnF r (upF r (n - 1) - 1) (n - 1 - (upF r (n - 1) - 1)))) (upF r (n - 1) - 1 + 1) (n - 1) 3
def chP (n : Nat) : List (List Nat) → Bool
  | [] => false
  | [l] => upF (lfN l) (n - 1) == 0
  | l :: l' :: rest => (upF (lfN l) (n - 1) != 0) && (List.range n).all (fun i => stF n (lfN l) i == lfN l' i) && chP n (l' :: rest)
set_option maxRecDepth 100000 in
theorem ch_all : ∀ n : Nat, n < 6 → 0 < n → chP n (prL n n []) = true ∧ (prL n n []).length ≤ 120 ∧ (prL n n []).head? = some (List.range n) ∧ ((prL n n []).all (fun l => l.length == n && l.all (fun v => Nat.blt v n))) = true := by decide +kernel
theorem rv_eq {r : Nat → Int} {lo hi : Nat} : ∀ m : Nat, lo ≥ hi → rvF r lo hi m = r
  | 0, _ => rfl
  | m + 1, h => by rw [rvF, if_neg (by omega)]
theorem ex_ok {D : aD} {r : Nat → Int} {a b n : Nat} (hn : n ≤ 5) (ha : a < n) (hb : b < n) (hr : ∀ i : Nat, i < n → gI D 75 i = cI (r i)) : Ok (f_X2_exchange (cI (a : Int)) (cI (b : Int)) D) (fun D' => (∀ i : Nat, i < n → gI D' 75 i = cI (exF r a b i)) ∧ ∀ k j : Nat, k ≠ 75 → gI D' k j = gI D k j) := by
  have ea : ((a : Int)).toNat = a := by omega
  have eb : ((b : Int)).toNat = b := by omega
  have h1 := hr a ha
  have h2 := hr b hb
  unfold f_X2_exchange
  simp (disch := omega) only [e_bi, e_bind, e_let, e_tr, e_tl, cLm1, cLm2, cL0, cL1, cL2, cL3, cL4, cL5, cL6, cL7, cL8, cL9, cL10, cL11, cL12, cL13, cL14, cL15, cL16, cL17, cL18, cL19, cL20, cL21, cL22, cL23, cL24, cL25, cL29, cL30, cL31, cL32, cL36, cL48, cL50, cL51, cL52, cL64, cL99, cL100, cL700, cL1000, cL9999, cL10000, cI_add, cI_sub, cI_mul, cI_neg, cI_lt, cI_le, cI_eq, ne_eq, ifp, ifn, bI_p, bI_n, aZ_0, aZ_1, aZ_b, e_gdt, e_ifT, e_ifF, not_true_eq_false, not_false_eq_true, e_gd, cI_inT, cI_nat, ea, eb, h1, h2]
  refine ok_someI ⟨fun i hi => ?_, fun k j a => (gI_fr (by omega)).trans (gI_fr (by omega))⟩
  unfold exF
  by_cases y : i = b
  · subst y; rw [gI_eq, if_pos rfl]
  · rw [gI_fr (by omega), if_neg y]
    by_cases z : i = a
    · subst z; rw [gI_eq, if_pos rfl]
    · rw [gI_fr (by omega), if_neg z]; exact hr i hi
theorem up_b {r : Nat → Int} : ∀ k : Nat, upF r k ≤ k
  | 0 => Nat.le_refl 0
  | k + 1 => by
    have := up_b (r := r) k
    rw [upF]
    split <;> omega
theorem dn_b {r : Nat → Int} {i : Nat} : ∀ d : Nat, i ≤ dnF r i d ∧ dnF r i d ≤ i + d
  | 0 => by rw [dnF]; omega
  | d + 1 => by
    have := dn_b (r := r) (i := i) d
    rw [dnF]
    split <;> omega
theorem step_ok {D : aD} {r : Nat → Int} {n : Nat} (h0 : 0 < n) (h5 : n ≤ 5) (hQ : gI D 2 5 = cI (n : Int)) (hr : ∀ i : Nat, i < n → gI D 75 i = cI (r i)) (hb : ∀ i : Nat, i < n → 0 ≤ r i ∧ r i < 100) :
    Ok (f_X2_stepRow D) (fun q => (upF r (n - 1) = 0 ∧ q.1 = cI 0 ∧ q.2 = D) ∨ (upF r (n - 1) ≠ 0 ∧ q.1 = cI 1 ∧ (∀ i : Nat, i < n → gI q.2 75 i = cI (stF n r i)) ∧ ∀ k j : Nat, k ≠ 75 → gI q.2 k j = gI D k j)) := by
  unfold f_X2_stepRow J_X2_stepRow_10
  rw [e_let]
  have L1 : Ok (aLp (fun s : Int32 × aD => B_X2_stepRow_10 s.1 s.2) (cI ((n : Int) - 2), D)) (fun q => q = (cI ((upF r (n - 1) : Nat) - 1), D)) := by
    refine ok_lp (fun t s => ∃ k : Nat, s = (cI ((k : Int) - 1), D) ∧ k + t = n - 1 ∧ upF r k = upF r (n - 1)) (n - 1) (by omega) ⟨n - 1, by rw [show ((n - 1 : Nat) : Int) - 1 = (n : Int) - 2 by omega], by omega, rfl⟩ ?_
    rintro t s ht ⟨k, rfl, k1, k2⟩
    show Ok (B_X2_stepRow_10 (cI ((k : Int) - 1)) D) _
    unfold B_X2_stepRow_10
    by_cases c : k = 0
    · subst c
      simp (disch := omega) only [e_bi, e_bind, e_let, e_tr, e_tl, cLm1, cLm2, cL0, cL1, cL2, cL3, cL4, cL5, cL6, cL7, cL8, cL9, cL10, cL11, cL12, cL13, cL14, cL15, cL16, cL17, cL18, cL19, cL20, cL21, cL22, cL23, cL24, cL25, cL29, cL30, cL31, cL32, cL36, cL48, cL50, cL51, cL52, cL64, cL99, cL100, cL700, cL1000, cL9999, cL10000, cI_add, cI_sub, cI_mul, cI_neg, cI_lt, cI_le, cI_eq, ne_eq, ifp, ifn, bI_p, bI_n, aZ_0, aZ_1, aZ_b, e_gdt, e_ifT, e_ifF, not_true_eq_false, not_false_eq_true, e_gd]
      refine ok_someI (Or.inr ⟨_, rfl, ?_⟩)
      rw [← k2]
      rfl
    · obtain ⟨m, rfl⟩ : ∃ m, k = m + 1 := ⟨k - 1, by omega⟩
      have e : ((m + 1 : Nat) : Int) - 1 = (m : Int) := by omega
      have e1 : ((m : Int)).toNat = m := by omega
      have e2 : ((m : Int) + 1).toNat = m + 1 := by omega
      have r1 := hr m (by omega)
      have r2 := hr (m + 1) (by omega)
      have b1 := hb m (by omega)
      have b2 := hb (m + 1) (by omega)
      rw [upF] at k2
      by_cases z : r m ≤ r (m + 1)
      · rw [if_pos z] at k2
        simp (disch := omega) only [e_bi, e_bind, e_let, e_tr, e_tl, cLm1, cLm2, cL0, cL1, cL2, cL3, cL4, cL5, cL6, cL7, cL8, cL9, cL10, cL11, cL12, cL13, cL14, cL15, cL16, cL17, cL18, cL19, cL20, cL21, cL22, cL23, cL24, cL25, cL29, cL30, cL31, cL32, cL36, cL48, cL50, cL51, cL52, cL64, cL99, cL100, cL700, cL1000, cL9999, cL10000, cI_add, cI_sub, cI_mul, cI_neg, cI_lt, cI_le, cI_eq, ne_eq, ifp, ifn, bI_p, bI_n, aZ_0, aZ_1, aZ_b, e_gdt, e_ifT, e_ifF, not_true_eq_false, not_false_eq_true, e_gd, cI_inT, cI_nat, e, e1, e2, r1, r2]
        refine ok_someI (Or.inr ⟨_, rfl, ?_⟩)
        rw [← k2, e]
      · rw [if_neg z] at k2
        simp (disch := omega) only [e_bi, e_bind, e_let, e_tr, e_tl, cLm1, cLm2, cL0, cL1, cL2, cL3, cL4, cL5, cL6, cL7, cL8, cL9, cL10, cL11, cL12, cL13, cL14, cL15, cL16, cL17, cL18, cL19, cL20, cL21, cL22, cL23, cL24, cL25, cL29, cL30, cL31, cL32, cL36, cL48, cL50, cL51, cL52, cL64, cL99, cL100, cL700, cL1000, cL9999, cL10000, cI_add, cI_sub, cI_mul, cI_neg, cI_lt, cI_le, cI_eq, ne_eq, ifp, ifn, bI_p, bI_n, aZ_0, aZ_1, aZ_b, e_gdt, e_ifT, e_ifF, not_true_eq_false, not_false_eq_true, e_gd, cI_inT, cI_nat, e, e1, e2, r1, r2]
        exact ok_someI (Or.inl ⟨_, rfl, by omega, m, by rfl, by omega, k2⟩)
  rw [hQ, show cI (n : Int) - 2 = cI ((n : Int) - 2) from cI_sub n 2]
  refine ok_bindI (L1.mono fun q hq => ?_)
  obtain rfl := hq
  have ub := up_b (r := r) (n - 1)
  unfold J_X2_stepRow_37
  by_cases c : upF r (n - 1) = 0
  · rw [c]
    dsimp only
    rw [if_neg (show ¬ ((0 : Int32) ≤ cI (((0 : Nat) : Int) - 1)) by decide)]
    exact ok_someI (Or.inl ⟨rfl, rfl, rfl⟩)
  · have st : stF n r = rvF (exF r (upF r (n - 1) - 1) (dnF r (upF r (n - 1) - 1) (n - 1 - (upF r (n - 1) - 1)))) (upF r (n - 1) - 1 + 1) (n - 1) 3 := rfl
    have ei : ((upF r (n - 1) : Nat) : Int) - 1 = ((upF r (n - 1) - 1 : Nat) : Int) := by omega
    rw [ei]
    have ub' : upF r (n - 1) - 1 + 1 ≤ n - 1 := by omega
    generalize upF r (n - 1) - 1 = i at st ub'
    dsimp only
    rw [if_pos (show ((0 : Int32) ≤ cI (i : Int)) by rw [cL0, cI_le (by omega) (by omega) (by omega) (by omega)]; omega), e_let, hQ, show cI (n : Int) - 1 = cI ((n : Int) - 1) from cI_sub n 1]
    unfold J_X2_stepRow_53
    have L2 : Ok (aLp (fun s : Int32 × aD => B_X2_stepRow_53 (cI (i : Int)) s.1 s.2) (cI ((n : Int) - 1), D)) (fun q => q = (cI ((dnF r i (n - 1 - i) : Nat) : Int), D)) := by
      refine ok_lp (fun t s => ∃ d : Nat, s = (cI (((i + d : Nat) : Int)), D) ∧ d + t = n - 1 - i ∧ dnF r i d = dnF r i (n - 1 - i)) (n - 1 - i) (by omega) ⟨n - 1 - i, by rw [show ((i + (n - 1 - i) : Nat) : Int) = (n : Int) - 1 by omega], by omega, rfl⟩ ?_
      rintro t s ht ⟨d, rfl, k1, k2⟩
      show Ok (B_X2_stepRow_53 (cI (i : Int)) (cI (((i + d : Nat) : Int))) D) _
      unfold B_X2_stepRow_53
      by_cases c : d = 0
      · subst c
        simp (disch := omega) only [e_bi, e_bind, e_let, e_tr, e_tl, cLm1, cLm2, cL0, cL1, cL2, cL3, cL4, cL5, cL6, cL7, cL8, cL9, cL10, cL11, cL12, cL13, cL14, cL15, cL16, cL17, cL18, cL19, cL20, cL21, cL22, cL23, cL24, cL25, cL29, cL30, cL31, cL32, cL36, cL48, cL50, cL51, cL52, cL64, cL99, cL100, cL700, cL1000, cL9999, cL10000, cI_add, cI_sub, cI_mul, cI_neg, cI_lt, cI_le, cI_eq, ne_eq, ifp, ifn, bI_p, bI_n, aZ_0, aZ_1, aZ_b, e_gdt, e_ifT, e_ifF, not_true_eq_false, not_false_eq_true, e_gd]
        refine ok_someI (Or.inr ⟨_, rfl, ?_⟩)
        rw [← k2]
        rfl
      · obtain ⟨m, rfl⟩ : ∃ m, d = m + 1 := ⟨d - 1, by omega⟩
        have e1 : ((i : Int)).toNat = i := by omega
        have e2 : (((i + (m + 1) : Nat)) : Int).toNat = i + m + 1 := by omega
        have r1 := hr i (by omega)
        have r2 := hr (i + m + 1) (by omega)
        have b1 := hb i (by omega)
        have b2 := hb (i + m + 1) (by omega)
        rw [dnF] at k2
        by_cases z : r i ≤ r (i + m + 1)
        · rw [if_pos z] at k2
          simp (disch := omega) only [e_bi, e_bind, e_let, e_tr, e_tl, cLm1, cLm2, cL0, cL1, cL2, cL3, cL4, cL5, cL6, cL7, cL8, cL9, cL10, cL11, cL12, cL13, cL14, cL15, cL16, cL17, cL18, cL19, cL20, cL21, cL22, cL23, cL24, cL25, cL29, cL30, cL31, cL32, cL36, cL48, cL50, cL51, cL52, cL64, cL99, cL100, cL700, cL1000, cL9999, cL10000, cI_add, cI_sub, cI_mul, cI_neg, cI_lt, cI_le, cI_eq, ne_eq, ifp, ifn, bI_p, bI_n, aZ_0, aZ_1, aZ_b, e_gdt, e_ifT, e_ifF, not_true_eq_false, not_false_eq_true, e_gd, cI_inT, cI_nat, e1, e2, r1, r2]
          refine ok_someI (Or.inr ⟨_, rfl, ?_⟩)
          rw [← k2]
          rfl
        · rw [if_neg z] at k2
          simp (disch := omega) only [e_bi, e_bind, e_let, e_tr, e_tl, cLm1, cLm2, cL0, cL1, cL2, cL3, cL4, cL5, cL6, cL7, cL8, cL9, cL10, cL11, cL12, cL13, cL14, cL15, cL16, cL17, cL18, cL19, cL20, cL21, cL22, cL23, cL24, cL25, cL29, cL30, cL31, cL32, cL36, cL48, cL50, cL51, cL52, cL64, cL99, cL100, cL700, cL1000, cL9999, cL10000, cI_add, cI_sub, cI_mul, cI_neg, cI_lt, cI_le, cI_eq, ne_eq, ifp, ifn, bI_p, bI_n, aZ_0, aZ_1, aZ_b, e_gdt, e_ifT, e_ifF, not_true_eq_false, not_false_eq_true, e_gd, cI_inT, cI_nat, e1, e2, r1, r2]
          refine ok_someI (Or.inl ⟨_, rfl, by omega, m, ?_, by omega, k2⟩)
          rw [show ((i + (m + 1) : Nat) : Int) + -1 = ((i + m : Nat) : Int) by omega]
    refine ok_bindI (L2.mono fun q hq => ?_)
    obtain rfl := hq
    have db := dn_b (r := r) (i := i) (n - 1 - i)
    generalize dnF r i (n - 1 - i) = j at st db
    unfold J_X2_stepRow_79
    refine ok_bindI ((ex_ok (a := i) (b := j) h5 (by omega) (by omega) hr).mono fun D1 q => ?_)
    obtain ⟨q1, q2⟩ := q
    have Q1 : gI D1 2 5 = cI (n : Int) := (q2 _ _ (by omega)).trans hQ
    simp only [e_let, Q1]
    rw [show cI (n : Int) - 1 = cI ((n : Int) - 1) from cI_sub n 1, show cI (i : Int) + 1 = cI ((i : Int) + 1) from cI_add i 1]
    unfold J_X2_stepRow_100
    generalize exF r i j = r1 at st q1
    have L3 : Ok (aLp (fun s : Int32 × Int32 × aD => B_X2_stepRow_100 s.1 s.2.1 s.2.2) (cI ((i : Int) + 1), cI ((n : Int) - 1), D1)) (fun q => (∀ i : Nat, i < n → gI q 75 i = cI (stF n r i)) ∧ ∀ k j : Nat, k ≠ 75 → gI q k j = gI D k j) := by
      refine ok_lp (fun t s => ∃ (lo hi : Nat) (r2 : Nat → Int), s.1 = cI (lo : Int) ∧ s.2.1 = cI (hi : Int) ∧ lo = i + 1 + t ∧ hi + t = n - 1 ∧ (∀ i : Nat, i < n → gI s.2.2 75 i = cI (r2 i)) ∧ (∀ k j : Nat, k ≠ 75 → gI s.2.2 k j = gI D k j) ∧ stF n r = rvF r2 lo hi (3 - t)) 3 (by omega) ⟨i + 1, n - 1, r1, rfl, by show cI ((n : Int) - 1) = cI ((n - 1 : Nat) : Int); congr 1; omega, rfl, rfl, q1, q2, st⟩ ?_
      rintro t ⟨x1, x2, D2⟩ ht ⟨lo, hi, r2, p1, p2, p3, p4, p5, p6, p7⟩
      obtain rfl : x1 = cI (lo : Int) := p1
      obtain rfl : x2 = cI (hi : Int) := p2
      show Ok (B_X2_stepRow_100 (cI (lo : Int)) (cI (hi : Int)) D2) _
      unfold B_X2_stepRow_100
      by_cases c : lo < hi
      · simp (disch := omega) only [e_bi, e_bind, e_let, e_tr, e_tl, cLm1, cLm2, cL0, cL1, cL2, cL3, cL4, cL5, cL6, cL7, cL8, cL9, cL10, cL11, cL12, cL13, cL14, cL15, cL16, cL17, cL18, cL19, cL20, cL21, cL22, cL23, cL24, cL25, cL29, cL30, cL31, cL32, cL36, cL48, cL50, cL51, cL52, cL64, cL99, cL100, cL700, cL1000, cL9999, cL10000, cI_add, cI_sub, cI_mul, cI_neg, cI_lt, cI_le, cI_eq, ne_eq, ifp, ifn, bI_p, bI_n, aZ_0, aZ_1, aZ_b, e_gdt, e_ifT, e_ifF, not_true_eq_false, not_false_eq_true, e_gd]
        refine ok_bindI ((ex_ok (a := lo) (b := hi) h5 (by omega) (by omega) p5).mono fun D3 q => ?_)
        refine ok_someI (Or.inl ⟨_, rfl, by omega, lo + 1, hi - 1, exF r2 lo hi, rfl, ?_, by omega, by omega, q.1, fun k j a => (q.2 k j a).trans (p6 k j a), ?_⟩)
        · show cI ((hi : Int) + -1) = cI ((hi - 1 : Nat) : Int)
          congr 1
          omega
        · rw [p7, show 3 - t = (3 - (t + 1)) + 1 by omega, rvF, if_pos c]
      · simp (disch := omega) only [e_bi, e_bind, e_let, e_tr, e_tl, cLm1, cLm2, cL0, cL1, cL2, cL3, cL4, cL5, cL6, cL7, cL8, cL9, cL10, cL11, cL12, cL13, cL14, cL15, cL16, cL17, cL18, cL19, cL20, cL21, cL22, cL23, cL24, cL25, cL29, cL30, cL31, cL32, cL36, cL48, cL50, cL51, cL52, cL64, cL99, cL100, cL700, cL1000, cL9999, cL10000, cI_add, cI_sub, cI_mul, cI_neg, cI_lt, cI_le, cI_eq, ne_eq, ifp, ifn, bI_p, bI_n, aZ_0, aZ_1, aZ_b, e_gdt, e_ifT, e_ifF, not_true_eq_false, not_false_eq_true, e_gd]
        refine ok_someI (Or.inr ⟨_, rfl, ?_, p6⟩)
        rw [p7, rv_eq _ (by omega)]
        exact p5
    refine ok_bindI (L3.mono fun D2 q => ?_)
    unfold J_X2_stepRow_122
    exact ok_someI (Or.inr ⟨c, rfl, q.1, q.2⟩)
end PRM
