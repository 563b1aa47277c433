/-! the fairest order (19) -/
section FAI
def fsT (T : aT) (st : Int × List Nat) (l : List Nat) : Int × List Nat := if st.1 = -1 ∨ gdN T (lfN l) 5 < st.1 then (gdN T (lfN l) 5, l) else st
def inL (n : Nat) (l : List Nat) : Prop := l.length = n ∧ ∀ v : Nat, v ∈ l → v < n
theorem lf_b {n i : Nat} {l : List Nat} (h : inL n l) (hi : i < n) : 0 ≤ lfN l i ∧ lfN l i < n := by
  have e : l.getD i 0 = l[i]'(by rw [h.1]; exact hi) := by rw [List.getD_eq_getElem?_getD, List.getElem?_eq_getElem (by rw [h.1]; exact hi)]; rfl
  have m : l.getD i 0 ∈ l := by rw [e]; exact List.getElem_mem _
  have := h.2 _ m
  unfold lfN
  omega
theorem fs_b {T : aT} {n : Nat} {l : List Nat} {st : Int × List Nat} (hT : TOKs T) (h3 : 0 < T 0 3) (hn : (n : Int) = T 0 5) (hl : inL n l) (h : -1 ≤ st.1 ∧ st.1 ≤ 2527200) : 0 ≤ (fsT T st l).1 ∧ (fsT T st l).1 ≤ 2527200 := by
  have g := gd_b (o := lfN l) hT h3 (fun i hi => by have := lf_b hl (show i < n by omega); omega) 5
  unfold fsT
  split
  · exact g
  · omega
def RSt (D : aD) (a b n : Nat) (c : Nat) (st : Int × List Nat) : Prop := gI D a b = cI st.1 ∧ (st.1 ≠ -1 → ∀ i : Nat, i < n → gI D c i = cI (lfN st.2 i))
set_option maxRecDepth 100000 in
theorem bit_all : ∀ m : Nat, m < 32 → ∀ v : Nat, v < 5 → ((((cI (m : Int)) >>> ((cI (v : Int)) &&& 31)) &&& 1 ≠ 1) ↔ m.testBit v = false) ∧ (cI (m : Int) ||| ((1 : Int32) <<< (cI (v : Int) &&& 31))) = cI ((m ||| (1 <<< v) : Nat) : Int) ∧ (m ||| (1 <<< v)) < 32 ∧ ∀ u : Nat, u < 5 → (m ||| (1 <<< v)).testBit u = (m.testBit u || u == v) := by decide +kernel
def frF (D D' : aD) : Prop := (∀ k j : Nat, ¬ (108 ≤ k ∧ k ≤ 112) → k ≠ 116 → k ≠ 117 → ¬ (k = 88 ∧ j = 46) → gI D' k j = gI D k j) ∧ D'.2 = D.2
theorem lf_l {pre : List Nat} {v i : Nat} (h : i < pre.length) : lfN (pre ++ [v]) i = lfN pre i := by
  unfold lfN
  rw [List.getD_eq_getElem?_getD, List.getD_eq_getElem?_getD, List.getElem?_append_left h]
theorem lf_n {pre : List Nat} {v : Nat} : lfN (pre ++ [v]) pre.length = (v : Int) := by
  unfold lfN
  rw [List.getD_eq_getElem?_getD, List.getElem?_append_right (Nat.le_refl _), Nat.sub_self]
  rfl
theorem fairOn_ok {T : aT} {n : Nat} (hT : TOKs T) (h3 : 0 < T 0 3) (hn : (n : Int) = T 0 5) : ∀ (m f : Nat) (pre : List Nat) (mask : Nat) (D : aD) (st : Int × List Nat), m + pre.length = n → m < f → (∀ v : Nat, v ∈ pre → v < n) → mask < 32 → (∀ u : Nat, u < 5 → mask.testBit u = pre.contains u) → MS D T →
    (∀ i : Nat, i < pre.length → gI D 116 i = cI (lfN pre i)) → RSt D 88 46 n 117 st → (-1 ≤ st.1 ∧ st.1 ≤ 2527200) →
    Ok (N_X12_fairOn f (cI (pre.length : Int)) (cI (mask : Int)) D) (fun D' => RSt D' 88 46 n 117 ((prL n m pre).foldl (fsT T) st) ∧ (-1 ≤ ((prL n m pre).foldl (fsT T) st).1 ∧ ((prL n m pre).foldl (fsT T) st).1 ≤ 2527200) ∧ (∀ i : Nat, i < pre.length → gI D' 116 i = cI (lfN pre i)) ∧ frF D D') := by
  have hq := hT.1
  intro m
  induction m with
  | zero =>
    intro f pre mask D st hm hf hpre hmask hbit hM h116 hR hst
    obtain ⟨f, rfl⟩ : ∃ g, f = g + 1 := ⟨f - 1, by omega⟩
    have m5 := hM.1 5 (by omega) (by omega)
    have hl : inL n pre := ⟨by omega, hpre⟩
    have gb := gd_b (o := lfN pre) hT h3 (fun i hi => by have := lf_b hl (show i < n by omega); omega) 5
    have fin := fs_b (st := st) hT h3 hn hl hst
    have pl : (prL n 0 pre).foldl (fsT T) st = fsT T st pre := rfl
    rw [pl]
    show Ok (F_X12_fairOn (N_X12_fairOn f) (cI (pre.length : Int)) (cI (mask : Int)) D) _
    unfold F_X12_fairOn
    rw [e_gd (by decide), show gI D 91 (5 : Int32).toNatClampNeg = cI (pre.length : Int) from m5.trans (by congr 1; omega), if_neg (fun z => z rfl)]
    refine ok_biI ((mgd_ok (o := lfN pre) hT hM h3 (fun i hi => ⟨h116 i (by omega), by have := lf_b hl (show i < n by omega); omega⟩)).mono fun r q => ?_)
    obtain ⟨y, D1⟩ := r
    obtain ⟨q1, q2, q3⟩ := q
    obtain rfl : y = _ := q1
    have q2' : ∀ k j : Nat, ¬ (108 ≤ k ∧ k ≤ 112) → gI D1 k j = gI D k j := q2
    have r46 : gI D1 88 46 = cI st.1 := (q2' _ _ (by omega)).trans hR.1
    have put : fsT T st pre = (gdN T (lfN pre) 5, pre) → Ok (J_X12_fairOn_36 (N_X12_fairOn f) (cI (gdN T (lfN pre) 5)) D1) (fun D' => RSt D' 88 46 n 117 (fsT T st pre) ∧ (-1 ≤ (fsT T st pre).1 ∧ (fsT T st pre).1 ≤ 2527200) ∧ (∀ i : Nat, i < pre.length → gI D' 116 i = cI (lfN pre i)) ∧ frF D D') := by
      intro e
      unfold J_X12_fairOn_36
      rw [e_let]
      refine ok_bindI ((be_ok (by omega) (by omega) (by omega)).mono fun D2 z => ?_)
      obtain ⟨z1, z2, z3⟩ := z
      have f116 : ∀ i : Nat, i < pre.length → gI D2 116 i = cI (lfN pre i) := fun i hi => by rw [z2 _ _ (by omega), gI_fr (by omega), q2' _ _ (by omega)]; exact h116 i hi
      refine ok_someI ⟨⟨?_, fun _ i hi => ?_⟩, by omega, f116, fun k j a b c d => ?_, z3.trans q3⟩
      · rw [e, z2 _ _ (by omega)]; exact gI_eq
      · rw [e, z1 i (by omega), gI_fr (by omega), q2' _ _ (by omega)]; exact h116 i (by omega)
      · rw [z2 _ _ (by omega), gI_fr (by omega)]; exact q2' k j a
    dsimp only
    rw [r46]
    by_cases c1 : st.1 = -1
    · rw [if_pos (show cI st.1 = -1 by rw [c1]; rfl)]
      exact put (by unfold fsT; rw [if_pos (Or.inl c1)])
    · rw [if_neg (show ¬ (cI st.1 = -1) by rw [cLm1, cI_eq (by omega) (by omega) (by omega) (by omega)]; exact c1)]
      by_cases c2 : gdN T (lfN pre) 5 < st.1
      · rw [if_pos (show cI (gdN T (lfN pre) 5) < cI st.1 by rw [cI_lt (by omega) (by omega) (by omega) (by omega)]; exact c2)]
        exact put (by unfold fsT; rw [if_pos (Or.inr c2)])
      · rw [if_neg (show ¬ (cI (gdN T (lfN pre) 5) < cI st.1) by rw [cI_lt (by omega) (by omega) (by omega) (by omega)]; exact c2)]
        have e : fsT T st pre = st := by unfold fsT; rw [if_neg (by omega)]
        rw [e]
        exact ok_someI ⟨⟨r46, fun z i hi => (q2' _ _ (by omega)).trans (hR.2 z i hi)⟩, hst, fun i hi => (q2' _ _ (by omega)).trans (h116 i hi), fun k j a b c d => q2' k j a, q3⟩
  | succ m ih =>
    intro f pre mask D st hm hf hpre hmask hbit hM h116 hR hst
    obtain ⟨f, rfl⟩ : ∃ g, f = g + 1 := ⟨f - 1, by omega⟩
    have m5 := hM.1 5 (by omega) (by omega)
    show Ok (F_X12_fairOn (N_X12_fairOn f) (cI (pre.length : Int)) (cI (mask : Int)) D) _
    unfold F_X12_fairOn
    rw [e_gd (by decide), show gI D 91 (5 : Int32).toNatClampNeg = cI (n : Int) from m5.trans (by rw [hn]), if_pos (show cI (pre.length : Int) ≠ cI (n : Int) by rw [cI_ne (by omega) (by omega) (by omega) (by omega)]; omega)]
    unfold J_X12_fairOn_55
    refine ok_bindI (ok_lp (fun v t => t.1 = cI (v : Int) ∧ RSt t.2 88 46 n 117 ((((List.range v).filter (fun v => !(pre.contains v))).flatMap (fun v => prL n m (pre ++ [v]))).foldl (fsT T) st) ∧ (-1 ≤ ((((List.range v).filter (fun v => !(pre.contains v))).flatMap (fun v => prL n m (pre ++ [v]))).foldl (fsT T) st).1 ∧ ((((List.range v).filter (fun v => !(pre.contains v))).flatMap (fun v => prL n m (pre ++ [v]))).foldl (fsT T) st).1 ≤ 2527200) ∧ (∀ i : Nat, i < pre.length → gI t.2 116 i = cI (lfN pre i)) ∧ frF D t.2) n (by omega) ⟨rfl, hR, hst, h116, fun _ _ _ _ _ _ => rfl, rfl⟩ ?_)
    rintro v ⟨x, D1⟩ hv ⟨rfl, g1, g2, g3, g4⟩
    show Ok (B_X12_fairOn_55 (N_X12_fairOn f) (cI (pre.length : Int)) (cI (mask : Int)) (cI (v : Int)) D1) _
    have hM1 : MS D1 T := hM.fr (fun k j a => g4.1 k j (by omega) (by omega) (by omega) (by omega)) (fun j a b => g4.1 _ j (by omega) (by omega) (by omega) (by omega))
    have n5 : gI D1 91 (5 : Int32).toNatClampNeg = cI (n : Int) := (hM1.1 5 (by omega) (by omega)).trans (by rw [hn])
    unfold B_X12_fairOn_55
    rw [e_gd (by decide), n5]
    by_cases c : v < n
    · rw [if_neg (show ¬ (cI (n : Int) ≤ cI (v : Int)) by rw [cI_le (by omega) (by omega) (by omega) (by omega)]; omega)]
      obtain ⟨b1, b2, b3, b4⟩ := bit_all mask hmask v (by omega)
      by_cases t : pre.contains v = true
      · rw [if_neg (fun z => by have := b1.mp z; rw [hbit v (by omega), t] at this; cases this)]
        have nx : (((List.range (v + 1)).filter (fun v => !(pre.contains v))).flatMap (fun v => prL n m (pre ++ [v]))) = (((List.range v).filter (fun v => !(pre.contains v))).flatMap (fun v => prL n m (pre ++ [v]))) := by
          rw [List.range_succ, List.filter_append]
          simp only [List.filter_cons, t, Bool.not_true, Bool.false_eq_true, if_false, List.filter_nil, List.append_nil]
        rw [e_let]
        exact ok_someI (Or.inl ⟨_, rfl, c, cI_add v 1, by rw [nx]; exact g1, by rw [nx]; exact g2, g3, g4⟩)
      · have tf : pre.contains v = false := Bool.eq_false_iff.mpr t
        rw [if_pos (b1.mpr (by rw [hbit v (by omega), tf]))]
        have nx : (((List.range (v + 1)).filter (fun v => !(pre.contains v))).flatMap (fun v => prL n m (pre ++ [v]))) = (((List.range v).filter (fun v => !(pre.contains v))).flatMap (fun v => prL n m (pre ++ [v]))) ++ prL n m (pre ++ [v]) := by
          rw [List.range_succ, List.filter_append]
          simp only [List.filter_cons, tf, Bool.not_false, if_true, List.filter_nil, List.flatMap_append, List.flatMap_cons, List.flatMap_nil, List.append_nil]
        have el : ((pre.length : Int)).toNat = pre.length := by omega
        rw [e_gd (by rw [cI_inT] <;> omega), e_let, cI_nat (by omega) (by omega), el, b2, show cI (pre.length : Int) + 1 = cI (((pre ++ [v]).length : Nat) : Int) from by rw [List.length_append]; exact cI_add pre.length 1]
        generalize hsv : (((List.range v).filter (fun v => !(pre.contains v))).flatMap (fun v => prL n m (pre ++ [v]))) = Lv at g1 g2 nx
        have call := ih f (pre ++ [v]) (mask ||| (1 <<< v)) (pI D1 116 pre.length (cI (v : Int))) (Lv.foldl (fsT T) st) (by rw [List.length_append]; show m + (pre.length + 1) = n; omega) (by omega) (fun u hu => by
            rw [List.mem_append, List.mem_singleton] at hu
            rcases hu with hu | hu
            · exact hpre u hu
            · omega) b3 (fun u hu => by rw [b4 u hu, hbit u hu]; exact Bool.eq_iff_iff.mpr (by simp [List.mem_append])) (hM1.fr (fun k j a => gI_fr (by omega)) (fun j a b => gI_fr (by omega))) (fun i hi => by
            rw [List.length_append] at hi
            have hi' : i < pre.length + 1 := hi
            by_cases z : i = pre.length
            · subst z; rw [gI_eq, lf_n]
            · rw [gI_fr (by omega), lf_l (by omega)]; exact g3 i (by omega)) ⟨(gI_fr (by omega)).trans g1.1, fun z i hi => (gI_fr (by omega)).trans (g1.2 z i hi)⟩ g2
        refine ok_bindI (call.mono fun D2 q => ?_)
        obtain ⟨q1, q2, q3, q4⟩ := q
        rw [e_let]
        refine ok_someI (Or.inl ⟨_, rfl, c, cI_add v 1, ?_, ?_, fun i hi => ?_, fun k j a b c d => ?_, q4.2.trans g4.2⟩)
        · rw [nx, List.foldl_append]; exact q1
        · rw [nx, List.foldl_append]; exact q2
        · have := q3 i (by rw [List.length_append]; omega)
          rw [lf_l hi] at this
          exact this
        · exact (q4.1 k j a b c d).trans ((gI_fr (by omega)).trans (g4.1 k j a b c d))
    · obtain rfl : v = n := by omega
      rw [if_pos (show (cI (v : Int) ≤ cI (v : Int)) by rw [cI_le (by omega) (by omega) (by omega) (by omega)]; omega)]
      exact ok_someI (Or.inr ⟨_, rfl, ok_someI ⟨g1, g2, g3, g4⟩⟩)
/-- the class's search, from one order on -/
theorem searchOn {D : aD} {T : aT} {n : Nat} (hp : TOKp T) (hn' : TOKn T) (hC : CP D 2 T) (hN : CNow D T) (hM : mkD D T (fun _ _ _ => True)) (h3 : 0 < T 0 3) (hn : (n : Int) = T 0 5) (h0 : 0 < n) {L : List (List Nat)} (hL : chP n L = true) (h120 : L.length ≤ 120) (hin : ∀ l : List Nat, l ∈ L → inL n l)
    (hrow : ∀ l : List Nat, L.head? = some l → ∀ i : Nat, i < n → gI D 75 i = cI (lfN l i)) :
    Ok (aLp (fun s : Int32 × Int32 × Int32 × aD => B_X2_search_36 s.1 s.2.1 s.2.2.1 s.2.2.2) (cI (-1), cI 1, cI 0, D)) (fun r => r.1 = cI (L.foldl (fsT T) (-1, [])).1 ∧ (-1 ≤ (L.foldl (fsT T) (-1, [])).1 ∧ (L.foldl (fsT T) (-1, [])).1 ≤ 2527200) ∧ ((L.foldl (fsT T) (-1, [])).1 ≠ -1 → ∀ i : Nat, i < n → gI r.2 76 i = cI (lfN (L.foldl (fsT T) (-1, [])).2 i)) ∧ ∀ k j : Nat, k ≠ 75 → k ≠ 76 → gI r.2 k j = gI D k j) := by
  have hq := hp.1
  have hT := TOKs.of hp hn'
  refine ok_lp (fun k t => ∃ (done rest : List (List Nat)), L = done ++ rest ∧ done.length = k ∧ t.1 = cI (done.foldl (fsT T) (-1, [])).1 ∧ (-1 ≤ (done.foldl (fsT T) (-1, [])).1 ∧ (done.foldl (fsT T) (-1, [])).1 ≤ 2527200) ∧ ((done.foldl (fsT T) (-1, [])).1 ≠ -1 → ∀ i : Nat, i < n → gI t.2.2.2 76 i = cI (lfN (done.foldl (fsT T) (-1, [])).2 i)) ∧
    t.2.2.1 = cI (k : Int) ∧ ((rest = [] ∧ t.2.1 = cI 0) ∨ (chP n rest = true ∧ t.2.1 = cI 1 ∧ ∀ l : List Nat, rest.head? = some l → ∀ i : Nat, i < n → gI t.2.2.2 75 i = cI (lfN l i))) ∧ ∀ k j : Nat, k ≠ 75 → k ≠ 76 → gI t.2.2.2 k j = gI D k j) L.length (by omega)
    ⟨[], L, rfl, rfl, rfl, ⟨by show (-1 : Int) ≤ -1; omega, by show (-1 : Int) ≤ 2527200; omega⟩, fun z => absurd rfl z, rfl, Or.inr ⟨hL, rfl, hrow⟩, fun _ _ _ _ => rfl⟩ ?_
  rintro k ⟨x1, x2, x3, D1⟩ hk ⟨done, rest, e1, e2, q1, q2, q3, q4, q5, q6⟩
  obtain rfl : x1 = _ := q1
  obtain rfl : x3 = _ := q4
  have q6' : ∀ k j : Nat, k ≠ 75 → k ≠ 76 → gI D1 k j = gI D k j := q6
  obtain ⟨hC1, hN1⟩ := cF hp hC hN (D' := D1) (fun k j hk => q6' k j (by omega) (by omega))
  have hM1 : mkD D1 T (fun _ _ _ => True) := fun w i g d a b c e f h => (q6' _ _ (by omega) (by omega)).trans (hM w i g d a b c e f h)
  show Ok (B_X2_search_36 (cI (done.foldl (fsT T) (-1, [])).1) x2 (cI (k : Int)) D1) _
  rcases q5 with ⟨r0, r1⟩ | ⟨r0, r1, r2⟩
  · obtain rfl : x2 = cI 0 := r1
    have eL : L = done := by rw [e1, r0, List.append_nil]
    rw [eL]
    unfold B_X2_search_36
    by_cases c : (120 : Int32) ≤ cI (k : Int)
    · rw [if_pos c]
      exact ok_someI (Or.inr ⟨_, rfl, rfl, q2, q3, q6⟩)
    · rw [if_neg c, if_pos (show cI 0 = 0 from rfl)]
      exact ok_someI (Or.inr ⟨_, rfl, rfl, q2, q3, q6⟩)
  · obtain rfl : x2 = cI 1 := r1
    match rest, e1, r0, r2 with
    | [], e1, r0, r2 => cases r0
    | l :: rest, e1, r0, r2 =>
      have hl : inL n l := hin l (by rw [e1]; simp)
      have hr := r2 l rfl
      have hr' : ∀ i : Nat, i < n → gI D1 75 i = cI (lfN l i) := hr
      have lb := fun i hi => lf_b (i := i) hl hi
      have len : k < L.length := by rw [e1, List.length_append, ← e2]; simp
      have gd := cgd_eq (o := lfN l) hp hC1 hM1 h3 (fun i hi => ⟨hr' i (by omega), by have := lb i (by omega); omega⟩) hT
      have gb := gd_b (o := lfN l) hT h3 (fun i hi => by have := lb i (by omega); omega) 5
      have fb := fs_b (st := done.foldl (fsT T) (-1, [])) hT h3 hn hl q2
      have fe : (done ++ [l]).foldl (fsT T) (-1, []) = fsT T (done.foldl (fsT T) (-1, [])) l := by rw [List.foldl_append]; rfl
      have p5 : gI D1 2 5 = cI (n : Int) := by rw [hn]; exact (CP.two hC1).2.2.1 5 (by omega) (by omega)
      -- the step to the next order
      have nxt : ∀ D2 : aD, (∀ i : Nat, i < n → gI D2 75 i = cI (lfN l i)) → (∀ k j : Nat, k ≠ 75 → k ≠ 76 → gI D2 k j = gI D k j) → ((fsT T (done.foldl (fsT T) (-1, [])) l).1 ≠ -1 → ∀ i : Nat, i < n → gI D2 76 i = cI (lfN (fsT T (done.foldl (fsT T) (-1, [])) l).2 i)) → gI D2 2 5 = cI (n : Int) →
          ∀ Q : ((Int32 × Int32 × Int32 × aD) ⊕ (Int32 × aD)) → Prop, (∀ (y : Int32) (D5 : aD), ((rest = [] ∧ y = cI 0) ∨ (chP n rest = true ∧ y = cI 1 ∧ ∀ l : List Nat, rest.head? = some l → ∀ i : Nat, i < n → gI D5 75 i = cI (lfN l i))) → ((fsT T (done.foldl (fsT T) (-1, [])) l).1 ≠ -1 → ∀ i : Nat, i < n → gI D5 76 i = cI (lfN (fsT T (done.foldl (fsT T) (-1, [])) l).2 i)) → (∀ k j : Nat, k ≠ 75 → k ≠ 76 → gI D5 k j = gI D k j) → Q (.inl (cI (fsT T (done.foldl (fsT T) (-1, [])) l).1, y, cI ((k : Int) + 1), D5))) →
          Ok (J_X2_search_80 (cI (fsT T (done.foldl (fsT T) (-1, [])) l).1) (cI (k : Int)) D2) Q := by
        intro D2 m1 m2 m3 m4 Q hQ
        unfold J_X2_search_80
        refine ok_biI ((step_ok h0 (by omega) m4 m1 (fun i hi => by have := lb i hi; omega)).mono fun r hr9 => ?_)
        obtain ⟨y, D3⟩ := r
        show Ok (some (.inl (cI (fsT T (done.foldl (fsT T) (-1, [])) l).1, y, cI (k : Int) + cI 1, D3))) Q
        rw [cI_add]
        refine ok_someI ?_
        rcases hr9 with ⟨u, y0, d0⟩ | ⟨u, y1, d1, d2⟩
        · obtain rfl : y = cI 0 := y0
          obtain rfl : D3 = D2 := d0
          refine hQ _ _ (Or.inl ⟨?_, rfl⟩) m3 m2
          match rest, r0 with
          | [], _ => rfl
          | l' :: rest, r0 =>
            rw [chP, Bool.and_eq_true, Bool.and_eq_true, u] at r0
            exact absurd r0.1.1 (by decide)
        · obtain rfl : y = cI 1 := y1
          have d2' : ∀ k j : Nat, k ≠ 75 → gI D3 k j = gI D2 k j := d2
          match rest, r0, hQ with
          | [], r0, hQ =>
            rw [chP, beq_iff_eq] at r0
            exact absurd r0 u
          | l' :: rest, r0, hQ =>
            rw [chP, Bool.and_eq_true, Bool.and_eq_true] at r0
            refine hQ _ _ (Or.inr ⟨r0.2, rfl, fun l2 hl2 i hi => ?_⟩) (fun z i hi => (d2' _ _ (by omega)).trans (m3 z i hi)) (fun k j a b => (d2' k j a).trans (m2 k j a b))
            cases hl2
            have w := List.all_eq_true.mp r0.1.2 i (List.mem_range.mpr hi)
            rw [beq_iff_eq] at w
            rw [← w]
            exact d1 i hi
      suffices hsu : ∀ Q : ((Int32 × Int32 × Int32 × aD) ⊕ (Int32 × aD)) → Prop, (∀ (y : Int32) (D5 : aD), ((rest = [] ∧ y = cI 0) ∨ (chP n rest = true ∧ y = cI 1 ∧ ∀ l : List Nat, rest.head? = some l → ∀ i : Nat, i < n → gI D5 75 i = cI (lfN l i))) → ((fsT T (done.foldl (fsT T) (-1, [])) l).1 ≠ -1 → ∀ i : Nat, i < n → gI D5 76 i = cI (lfN (fsT T (done.foldl (fsT T) (-1, [])) l).2 i)) → (∀ k j : Nat, k ≠ 75 → k ≠ 76 → gI D5 k j = gI D k j) → Q (.inl (cI (fsT T (done.foldl (fsT T) (-1, [])) l).1, y, cI ((k : Int) + 1), D5))) → Ok (B_X2_search_36 (cI (done.foldl (fsT T) (-1, [])).1) (cI 1) (cI (k : Int)) D1) Q from
        hsu _ (fun y D5 a b c => Or.inl ⟨_, rfl, len, done ++ [l], rest, by rw [e1]; simp, by rw [List.length_append, e2]; rfl, by rw [fe], by rw [fe]; omega, by rw [fe]; exact b, rfl, a, c⟩)
      intro Q hQ
      unfold B_X2_search_36
      rw [if_neg (show ¬ ((120 : Int32) ≤ cI (k : Int)) by rw [show (120 : Int32) = cI 120 from rfl, cI_le (by omega) (by omega) (by omega) (by omega)]; omega), if_neg (show ¬ (cI 1 = 0) by decide), gd, e_bi]
      have put : (fsT T (done.foldl (fsT T) (-1, [])) l) = (gdN T (lfN l) 5, l) → Ok (J_X2_search_63 (cI (k : Int)) (cI (gdN T (lfN l) 5)) D1) Q := by
        intro e
        unfold J_X2_search_63
        rw [e_gd (by decide), e_let]
        have cp := fun i (hi : i < n) => (cp_E (D := D1) (k0 := 75) (k1 := 76) (j := i) (n := 5) (by omega) (by omega) (show i < (5 : Int).toNat by show i < 5; omega))
        have N := nxt (aCp D1 75 76 (cI 0) (cI 0) (cI 5)) (fun i hi => by rw [cp_N (by omega)]; exact hr' i hi) (fun k j a b => by rw [cp_N b]; exact q6' k j a b) (fun _ i hi => by rw [e, cp i hi]; exact hr' i hi) (by rw [cp_N (by omega)]; exact p5) Q hQ
        rw [e] at N
        exact N
      by_cases c1 : (done.foldl (fsT T) (-1, [])).1 = -1
      · rw [if_pos (show cI (done.foldl (fsT T) (-1, [])).1 = -1 by rw [c1]; rfl)]
        exact put (by unfold fsT at c1 ⊢; rw [if_pos (Or.inl c1)])
      · rw [if_neg (show ¬ (cI (done.foldl (fsT T) (-1, [])).1 = -1) by rw [cLm1, cI_eq (by omega) (by omega) (by omega) (by omega)]; exact c1)]
        by_cases c2 : (done.foldl (fsT T) (-1, [])).1 ≤ gdN T (lfN l) 5
        · rw [if_pos (show cI (done.foldl (fsT T) (-1, [])).1 ≤ cI (gdN T (lfN l) 5) by rw [cI_le (by omega) (by omega) (by omega) (by omega)]; exact c2)]
          have e : fsT T (done.foldl (fsT T) (-1, [])) l = done.foldl (fsT T) (-1, []) := by
            rw [fsT, if_neg (by omega)]
          have N := nxt D1 hr' q6' (fun z i hi => by rw [e] at z ⊢; exact q3 z i hi) p5 Q hQ
          rw [e] at N
          exact N
        · rw [if_neg (show ¬ (cI (done.foldl (fsT T) (-1, [])).1 ≤ cI (gdN T (lfN l) 5)) by rw [cI_le (by omega) (by omega) (by omega) (by omega)]; exact c2)]
          exact put (by rw [fsT, if_pos (Or.inr (by omega))])
end FAI
