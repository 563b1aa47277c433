/-! prize, days: methods that throw two things -/
section PRZ
def wX2 (E1 E2 : String) (w : Int32 ⊕ Bool) : String ⊕ Int32 := match w with
  | .inl y => .inr y
  | .inr false => .inl E1
  | .inr true => .inl E2
def wM2 (w : Int32 ⊕ Bool) (c y : Int32) : Prop := match w with
  | .inl z => c = cI 0 ∧ y = z
  | .inr false => c = cI 1
  | .inr true => c = cI 2
theorem hp_step2 {fc : Option ((String ⊕ Int32) × aD)} {E1 E2 : String} {fm : aD → Option (Int32 × aD)} {C P : aD → Prop} (hE : E2 ≠ E1) (w : Int32 ⊕ Bool) (hJ : ∀ (D : aD) (x : Int64), C D → C (pJ D 132 0 x))
    (hc : Ok fc (fun r => r.1 = wX2 E1 E2 w ∧ C r.2)) (hm : ∀ D : aD, C D → Ok (fm D) (fun r => wM2 w (gI r.2 88 2) r.1 ∧ r.2.2 = D.2 ∧ P r.2)) :
    Ok2 (aBi (aHp fc E1 E2) (fun x0 D => aBi (fm D) (fun x1 D => aBi (f_X12_thrown D) (fun x2 D => if x2 = x0 then if x0 ≠ 0 then some ((1 : Int32), D) else if (lg_cmp (gJ D 132 0) x1.toInt64) = 0 then some (1, D) else some (0, D) else some (0, D))))) (fun r D => r = 1 ∧ P D) := by
  rw [ok_2, ok_bi]
  obtain ⟨⟨q, D1⟩, rfl, h1, h2⟩ := hc
  match w, h1, hm with
  | .inr false, h1, hm =>
    obtain rfl : q = .inl E1 := h1
    refine ⟨(1, D1), by simp [aHp], ?_⟩
    refine ok_biI ?_
    obtain ⟨⟨y, D2⟩, e2, h3, -, h5⟩ := hm D1 h2
    refine ⟨(y, D2), e2, ?_⟩
    refine ok_biI (ok_someI ?_)
    have h3' : gI D2 88 2 = cI 1 := h3
    show Ok (if gI D2 88 2 = 1 then if (1 : Int32) ≠ 0 then some ((1 : Int32), D2) else _ else some (0, D2)) _
    rw [if_pos (show gI D2 88 2 = 1 from h3'), if_pos (by decide), ok_some]
    exact ⟨rfl, h5⟩
  | .inr true, h1, hm =>
    obtain rfl : q = .inl E2 := h1
    refine ⟨(2, D1), by simp [aHp, hE], ?_⟩
    refine ok_biI ?_
    obtain ⟨⟨y, D2⟩, e2, h3, -, h5⟩ := hm D1 h2
    refine ⟨(y, D2), e2, ?_⟩
    refine ok_biI (ok_someI ?_)
    have h3' : gI D2 88 2 = cI 2 := h3
    show Ok (if gI D2 88 2 = 2 then if (2 : Int32) ≠ 0 then some ((1 : Int32), D2) else _ else some (0, D2)) _
    rw [if_pos (show gI D2 88 2 = 2 from h3'), if_pos (by decide), ok_some]
    exact ⟨rfl, h5⟩
  | .inl z, h1, hm =>
    obtain rfl : q = .inr z := h1
    refine ⟨(0, pJ D1 132 0 z.toInt64), by simp [aHp], ?_⟩
    refine ok_biI ?_
    obtain ⟨⟨y, D2⟩, e2, h3, h4, h5⟩ := hm _ (hJ D1 z.toInt64 h2)
    refine ⟨(y, D2), e2, ?_⟩
    refine ok_biI (ok_someI ?_)
    obtain ⟨h3, h6⟩ : gI D2 88 2 = cI 0 ∧ y = z := h3
    subst h6
    show Ok (if gI D2 88 2 = 0 then if (0 : Int32) ≠ 0 then some ((1 : Int32), D2) else if lg_cmp (gJ D2 132 0) y.toInt64 = 0 then some (1, D2) else some (0, D2) else some (0, D2)) _
    have e9 : gJ D2 132 0 = y.toInt64 := by
      rw [gJ_of h4]
      exact gJ_eq
    rw [if_pos (show gI D2 88 2 = 0 from h3), if_neg (by decide), e9, if_pos (show lg_cmp y.toInt64 y.toInt64 = 0 from lg_same _), ok_some]
    exact ⟨rfl, h5⟩
def NSE : String := "java/util/NoSuchElementException"
def IAE : String := "java/lang/IllegalArgumentException"
/-- the sums above 0, together; a garden's part -/
def pzA (U : Nat → Int) : Nat → Int64
  | 0 => 0
  | n + 1 => pzA U n + (cI (mxI (U n))).toInt64
def pzP (pr : Int32) (al : Int64) (U : Nat → Int) (n : Nat) : Int32 := (pr.toInt64 * (cI (mxI (U n))).toInt64 / al).toInt32
def pzL (pr : Int32) (al : Int64) (U : Nat → Int) : Nat → Int32
  | 0 => pr
  | n + 1 => pzL pr al U n - pzP pr al U n
def pzM (pr : Int32) (al : Int64) (U : Nat → Int) (a : Int) : Nat → Int32
  | 0 => 0
  | n + 1 => if (n : Int) = a then pzP pr al U n else pzM pr al U a n
theorem lg_pos {x : Int64} (h : ¬ lg_cmp x 0 ≤ 0) : aNzL x = true := by
  unfold aNzL
  by_cases c : x = 0
  · subst c
    exact absurd (show lg_cmp 0 0 ≤ 0 by decide) h
  · simp [c]
def pzR (U : Nat → Int) (G : Nat) (a : Int) (pr : Int32) : Int32 :=
  if lg_cmp (pzA U G) 0 ≤ 0 then (if a = fbN U (-1) G then 0 + pr else 0) else (if a = fbN U (-1) G then pzM pr (pzA U G) U a G + pzL pr (pzA U G) U G else pzM pr (pzA U G) U a G)
theorem prizePart_eq {D : aD} {T : aT} {U : Nat → Int} {a : Int} {pr : Int32} (hp : TOKp T) (hC : CP D 2 T) (hU : ∀ g : Nat, g < 5 → gI D 66 g = cI (U g)) (hB : uB U) (ha : 0 ≤ a ∧ a < T 0 3) : f_X1_prizePart (cI a) pr D = some (pzR U (T 0 3).toNat a pr, D) := by
  have hq := hp.1
  obtain ⟨-, -, q3, -⟩ := CP.two hC
  have L1 : aLp (fun s : Int64 × Int32 × aD => B_X1_prizePart_5 (cI a) pr s.1 s.2.1 s.2.2) (0, cI 0, D) = some (pzA U (T 0 3).toNat, D) := by
    refine lp_cnt (body := fun s : Int64 × Int32 × aD => B_X1_prizePart_5 (cI a) pr s.1 s.2.1 s.2.2) (T 0 3).toNat (by omega) (fun i => (pzA U i, cI (i : Int), D)) (pzA U (T 0 3).toNat, D) ?_ ?_
    · intro i hi
      have e : ((i : Int)).toNat = i := by omega
      have u := hU i (by omega)
      have b := hB i (by omega)
      show B_X1_prizePart_5 (cI a) pr (pzA U i) (cI (i : Int)) D = _
      unfold B_X1_prizePart_5
      simp (disch := omega) only [e_gd, e_gdt, e_let, q3, cI_le, cI_inT, cI_nat, e, u, ifn, cL1, cI_add, cI_mx]
      rfl
    · show B_X1_prizePart_5 (cI a) pr (pzA U (T 0 3).toNat) (cI (((T 0 3).toNat : Nat) : Int)) D = _
      unfold B_X1_prizePart_5
      simp (disch := omega) only [q3, cI_le, ifp]
  have ef := first_eq hp hC hU hB (by omega)
  have fb := fb_b (U := U) (b := -1) (T 0 3).toNat
  unfold f_X1_prizePart J_X1_prizePart_5
  rw [show aLp (fun s : Int64 × Int32 × aD => B_X1_prizePart_5 (cI a) pr s.1 s.2.1 s.2.2) (0, 0, D) = some (pzA U (T 0 3).toNat, D) from L1, e_bind]
  unfold J_X1_prizePart_38 J_X1_prizePart_47 pzR
  dsimp only
  generalize hA : pzA U (T 0 3).toNat = A
  by_cases c : lg_cmp A 0 ≤ 0
  · have L2 : aLp (fun s : Int32 × Int32 × Int32 × aD => B_X1_prizePart_47 (cI a) pr A s.1 s.2.1 s.2.2.1 s.2.2.2) (pr, 0, 0, D) = some (pr, 0, D) := by
      refine lp_cnt (body := fun s : Int32 × Int32 × Int32 × aD => B_X1_prizePart_47 (cI a) pr A s.1 s.2.1 s.2.2.1 s.2.2.2) 0 (by omega) (fun _ => (pr, 0, 0, D)) (pr, 0, D) (fun i hi => absurd hi (by omega)) ?_
      show B_X1_prizePart_47 (cI a) pr A pr 0 0 D = _
      unfold B_X1_prizePart_47
      rw [if_pos c]
    rw [L2, e_bind, if_pos c]
    unfold J_X1_prizePart_108
    dsimp only
    rw [ef, e_bi]
    by_cases d : a = fbN U (-1) (T 0 3).toNat
    · simp (disch := omega) only [cI_eq, ne_eq, ifn, ifp]
    · simp (disch := omega) only [cI_eq, ne_eq, ifn, ifp]
  · have L2 : aLp (fun s : Int32 × Int32 × Int32 × aD => B_X1_prizePart_47 (cI a) pr A s.1 s.2.1 s.2.2.1 s.2.2.2) (pr, 0, cI 0, D) = some (pzL pr A U (T 0 3).toNat, pzM pr A U a (T 0 3).toNat, D) := by
      refine lp_cnt (body := fun s : Int32 × Int32 × Int32 × aD => B_X1_prizePart_47 (cI a) pr A s.1 s.2.1 s.2.2.1 s.2.2.2) (T 0 3).toNat (by omega) (fun i => (pzL pr A U i, pzM pr A U a i, cI (i : Int), D)) (pzL pr A U (T 0 3).toNat, pzM pr A U a (T 0 3).toNat, D) ?_ ?_
      · intro i hi
        have e : ((i : Int)).toNat = i := by omega
        have u := hU i (by omega)
        have b := hB i (by omega)
        show B_X1_prizePart_47 (cI a) pr A (pzL pr A U i) (pzM pr A U a i) (cI (i : Int)) D = some (.inl (pzL pr A U (i + 1), pzM pr A U a (i + 1), cI ((i + 1 : Nat) : Int), D))
        unfold B_X1_prizePart_47
        rw [if_neg c]
        rw [pzL, pzM]
        by_cases d : (i : Int) = a
        · simp (disch := omega) only [e_gd, e_gdt, e_let, lg_pos c, q3, cI_le, cI_eq, ne_eq, cI_inT, cI_nat, e, u, ifn, ifp, cL1, cI_add, cI_mx]
          rfl
        · simp (disch := omega) only [e_gd, e_gdt, e_let, lg_pos c, q3, cI_le, cI_eq, ne_eq, cI_inT, cI_nat, e, u, ifn, ifp, cL1, cI_add, cI_mx]
          rfl
      · show B_X1_prizePart_47 (cI a) pr A (pzL pr A U (T 0 3).toNat) (pzM pr A U a (T 0 3).toNat) (cI (((T 0 3).toNat : Nat) : Int)) D = _
        unfold B_X1_prizePart_47
        rw [if_neg c]
        simp (disch := omega) only [q3, cI_le, ifp]
    rw [show aLp (fun s : Int32 × Int32 × Int32 × aD => B_X1_prizePart_47 (cI a) pr A s.1 s.2.1 s.2.2.1 s.2.2.2) (pr, 0, 0, D) = _ from L2, e_bind, if_neg c]
    unfold J_X1_prizePart_108
    dsimp only
    rw [ef, e_bi]
    by_cases d : a = fbN U (-1) (T 0 3).toNat
    · simp (disch := omega) only [cI_eq, ne_eq, ifn, ifp]
    · simp (disch := omega) only [cI_eq, ne_eq, ifn, ifp]
theorem mprize_eq {D : aD} {T : aT} {U : Nat → Int} {a : Int} {pr : Int32} (hq : 0 ≤ T 0 3 ∧ T 0 3 ≤ 5) (m3 : gI D 91 3 = cI (T 0 3)) (hU : ∀ g : Nat, g < 5 → gI D 112 g = cI (U g)) (hB : uB U) (ha : 0 ≤ a ∧ a < T 0 3) : J_X12_prize_58 (cI a) pr (cI (fbN U (-1) (T 0 3).toNat)) 0 0 D = some (pzR U (T 0 3).toNat a pr, D) := by
  have fb := fb_b (U := U) (b := -1) (T 0 3).toNat
  generalize hf : fbN U (-1) (T 0 3).toNat = f at fb
  have L1 : aLp (fun s : Int64 × Int32 × aD => B_X12_prize_58 (cI a) pr (cI f) s.1 s.2.1 s.2.2) (0, cI 0, D) = some (pzA U (T 0 3).toNat, D) := by
    refine lp_cnt (body := fun s : Int64 × Int32 × aD => B_X12_prize_58 (cI a) pr (cI f) s.1 s.2.1 s.2.2) (T 0 3).toNat (by omega) (fun i => (pzA U i, cI (i : Int), D)) (pzA U (T 0 3).toNat, D) ?_ ?_
    · intro i hi
      have e : ((i : Int)).toNat = i := by omega
      have u := hU i (by omega)
      have b := hB i (by omega)
      show B_X12_prize_58 (cI a) pr (cI f) (pzA U i) (cI (i : Int)) D = _
      unfold B_X12_prize_58
      simp (disch := omega) only [e_gd, e_gdt, e_let, cL3, cX3, Int.reduceToNat, m3, cI_le, cI_inT, cI_nat, e, u, ifn, cL1, cI_add, cI_mx]
      rfl
    · show B_X12_prize_58 (cI a) pr (cI f) (pzA U (T 0 3).toNat) (cI (((T 0 3).toNat : Nat) : Int)) D = _
      unfold B_X12_prize_58
      simp (disch := omega) only [e_gd, e_gdt, cL3, cX3, Int.reduceToNat, cI_inT, m3, cI_le, ifp]
  unfold J_X12_prize_58
  rw [show aLp (fun s : Int64 × Int32 × aD => B_X12_prize_58 (cI a) pr (cI f) s.1 s.2.1 s.2.2) (0, 0, D) = some (pzA U (T 0 3).toNat, D) from L1, e_bind]
  unfold J_X12_prize_92 J_X12_prize_101 pzR
  dsimp only
  rw [hf]
  generalize hA : pzA U (T 0 3).toNat = A
  by_cases c : lg_cmp A 0 ≤ 0
  · have L2 : aLp (fun s : Int32 × Int32 × Int32 × aD => B_X12_prize_101 (cI a) pr (cI f) A s.1 s.2.1 s.2.2.1 s.2.2.2) (pr, 0, cI 0, D) = some (pr, 0, D) := by
      refine lp_cnt (body := fun s : Int32 × Int32 × Int32 × aD => B_X12_prize_101 (cI a) pr (cI f) A s.1 s.2.1 s.2.2.1 s.2.2.2) 0 (by omega) (fun _ => (pr, 0, cI 0, D)) (pr, 0, D) (fun i hi => absurd hi (by omega)) ?_
      show B_X12_prize_101 (cI a) pr (cI f) A pr 0 (cI 0) D = _
      unfold B_X12_prize_101
      rw [if_pos c]
      simp (disch := omega) only [e_gd, e_gdt, cL3, cX3, Int.reduceToNat, cI_inT, m3, cI_le, ifn]
    rw [show aLp (fun s : Int32 × Int32 × Int32 × aD => B_X12_prize_101 (cI a) pr (cI f) A s.1 s.2.1 s.2.2.1 s.2.2.2) (pr, 0, 0, D) = _ from L2, e_bind, if_pos c]
    unfold J_X12_prize_168
    dsimp only
    by_cases d : a = f
    · simp (disch := omega) only [cI_eq, ne_eq, ifn, ifp]
    · simp (disch := omega) only [cI_eq, ne_eq, ifn, ifp]
  · have L2 : aLp (fun s : Int32 × Int32 × Int32 × aD => B_X12_prize_101 (cI a) pr (cI f) A s.1 s.2.1 s.2.2.1 s.2.2.2) (pr, 0, cI 0, D) = some (pzL pr A U (T 0 3).toNat, pzM pr A U a (T 0 3).toNat, D) := by
      refine lp_cnt (body := fun s : Int32 × Int32 × Int32 × aD => B_X12_prize_101 (cI a) pr (cI f) A s.1 s.2.1 s.2.2.1 s.2.2.2) (T 0 3).toNat (by omega) (fun i => (pzL pr A U i, pzM pr A U a i, cI (i : Int), D)) (pzL pr A U (T 0 3).toNat, pzM pr A U a (T 0 3).toNat, D) ?_ ?_
      · intro i hi
        have e : ((i : Int)).toNat = i := by omega
        have u := hU i (by omega)
        have b := hB i (by omega)
        show B_X12_prize_101 (cI a) pr (cI f) A (pzL pr A U i) (pzM pr A U a i) (cI (i : Int)) D = some (.inl (pzL pr A U (i + 1), pzM pr A U a (i + 1), cI ((i + 1 : Nat) : Int), D))
        unfold B_X12_prize_101
        rw [if_neg c]
        rw [pzL, pzM]
        by_cases d : (i : Int) = a
        · simp (disch := omega) only [e_gd, e_gdt, e_let, cL3, cX3, Int.reduceToNat, lg_pos c, m3, cI_le, cI_eq, ne_eq, cI_inT, cI_nat, e, u, ifn, ifp, cL1, cI_add, cI_mx]
          rfl
        · simp (disch := omega) only [e_gd, e_gdt, e_let, cL3, cX3, Int.reduceToNat, lg_pos c, m3, cI_le, cI_eq, ne_eq, cI_inT, cI_nat, e, u, ifn, ifp, cL1, cI_add, cI_mx]
          rfl
      · show B_X12_prize_101 (cI a) pr (cI f) A (pzL pr A U (T 0 3).toNat) (pzM pr A U a (T 0 3).toNat) (cI (((T 0 3).toNat : Nat) : Int)) D = _
        unfold B_X12_prize_101
        simp (disch := omega) only [e_gd, e_gdt, cL3, cX3, Int.reduceToNat, cI_inT, m3, cI_le, ifp]
    rw [show aLp (fun s : Int32 × Int32 × Int32 × aD => B_X12_prize_101 (cI a) pr (cI f) A s.1 s.2.1 s.2.2.1 s.2.2.2) (pr, 0, 0, D) = _ from L2, e_bind, if_neg c]
    unfold J_X12_prize_168
    dsimp only
    by_cases d : a = f
    · simp (disch := omega) only [cI_eq, ne_eq, ifn, ifp]
    · simp (disch := omega) only [cI_eq, ne_eq, ifn, ifp]
theorem step_14 {D : aD} {v1 v2 v3 v4 v5 : Int32} (h : lawP D) : Ok2 (f_law_14 v1 v2 v3 v4 v5 D) (fun r D => r = 1 ∧ lawP D) := by
  obtain ⟨T, K, L, B, H⟩ := h
  have ⟨hp, hn, hC, hN, hM, hR, _⟩ := H
  have hq := hp.1
  obtain ⟨a, rfl, ha1, ha2⟩ := cI_of v1
  obtain ⟨w, rfl, hw1, hw2⟩ := cI_of v2
  obtain ⟨z, rfl, hz1, hz2⟩ := cI_of v3
  unfold f_law_14 f_L_prize
  by_cases x1 : 0 ≤ a ∧ a < T 0 3
  · by_cases x2 : 0 ≤ w ∧ w < 5
    · by_cases x3 : 0 ≤ z ∧ z ≤ 9999
      · have ew : ((w.toNat : Nat) : Int) = w := by omega
        refine hp_step2 (fc := f_X11_prize (cI a) (cI w) (cI z) D) (fm := fun D => f_X12_prize (cI a) (cI w) (cI z) D) (P := lawP) (C := rel T K L B) (by decide) (.inl (pzR (smG T w.toNat) (T 0 3).toNat a (cI z))) (fun D x h => h) ?_ (fun D H => ?_)
        · unfold f_X11_prize
          simp (disch := omega) only [e_bi, e_bind, e_let, e_tr, e_tl, cLm1, cLm2, cL0, cL1, cL2, cL3, cL4, cL5, cL6, cL7, cL8, cL9, cL10, cL11, cL12, cL13, cL14, cL15, cL16, cL17, cL18, cL19, cL20, cL21, cL22, cL23, cL24, cL25, cL29, cL30, cL31, cL32, cL36, cL48, cL50, cL51, cL52, cL64, cL99, cL100, cL700, cL1000, cL9999, cL10000, cI_add, cI_sub, cI_mul, cI_neg, cI_lt, cI_le, cI_eq, ne_eq, ifp, ifn, bI_p, bI_n, aZ_0, aZ_1, aZ_b, e_gdt, e_ifT, e_ifF, not_true_eq_false, not_false_eq_true, e_gd, (needGarden_eq hp hC ha1 ha2).1 x1, (needWind_eq hw1 hw2).1 x2]
          have k := fun (kk : aD → Option ((String ⊕ Int32) × aD)) h => one_ok (w := w.toNat) H (by omega) (kk := kk) (Q := fun r => r.1 = wX2 "java/util/NoSuchElementException" "java/lang/IllegalArgumentException" (.inl (pzR (smG T w.toNat) (T 0 3).toNat a (cI z))) ∧ rel T K L B r.2) h
          rw [ew] at k
          refine k _ (fun D' h1 h2 h3 => ?_)
          rw [prizePart_eq hp h1 h2 (smG_u (TOKs.of hp hn)) x1, e_bi]
          exact ok_someI ⟨rfl, h3⟩
        · have H0 := H.code (x := cI 0)
          have hM0 := H0.2.2.2.2.1
          have hMS := MS.of hM0 H0.2.2.2.2.2.1
          have t := winnerBy_ok (w := w.toNat) (TOKs.of hp hn) hMS (by omega)
          rw [ew] at t
          unfold f_X12_prize
          simp (disch := omega) only [e_bi, e_bind, e_let, e_tr, e_tl, cLm1, cLm2, cL0, cL1, cL2, cL3, cL4, cL5, cL6, cL7, cL8, cL9, cL10, cL11, cL12, cL13, cL14, cL15, cL16, cL17, cL18, cL19, cL20, cL21, cL22, cL23, cL24, cL25, cL29, cL30, cL31, cL32, cL36, cL48, cL50, cL51, cL52, cL64, cL99, cL100, cL700, cL1000, cL9999, cL10000, cI_add, cI_sub, cI_mul, cI_neg, cI_lt, cI_le, cI_eq, ne_eq, ifp, ifn, bI_p, bI_n, aZ_0, aZ_1, aZ_b, e_gdt, e_ifT, e_ifF, not_true_eq_false, not_false_eq_true, e_gd, isGarden_eq hp hM0, isIn_eq]
          refine ok_biI (t.mono fun r q => ?_)
          obtain ⟨y, D1⟩ := r
          obtain ⟨q1, q2, q3, q4⟩ := q
          obtain rfl : y = _ := q1
          have q3' : ∀ k j : Nat, ¬ (108 ≤ k ∧ k ≤ 112) → gI D1 k j = gI (pI D 88 2 (cI 0)) k j := q3
          have e := mprize_eq (D := D1) (T := T) (U := smG T w.toNat) (a := a) (pr := cI z) (by omega) ((q3' _ _ (by omega)).trans (hMS.1 3 (by omega) (by omega))) q2 (smG_u (TOKs.of hp hn)) x1
          rw [show (0 : Int64) = 0 from rfl] at e
          show Ok (J_X12_prize_58 (cI a) (cI z) (cI (fbN (smG T w.toNat) (-1) (T 0 3).toNat)) 0 (cI 0) D1) _
          rw [show (cI 0 : Int32) = 0 from rfl, e]
          exact ok_someI ⟨⟨(q3' _ _ (by omega)).trans gI_eq, rfl⟩, q4, T, K, L, B, H0.mod (fun k j a => q3' k j (by unfold mScr at a; omega))⟩
      · refine hp_step2 (fc := f_X11_prize (cI a) (cI w) (cI z) D) (fm := fun D => f_X12_prize (cI a) (cI w) (cI z) D) (P := lawP) (C := rel T K L B) (by decide) (.inr true) (fun D x h => h) ?_ (fun D H => ?_)
        · unfold f_X11_prize J_X11_prize_20
          by_cases y : z < 0
          · simp (disch := omega) only [e_bi, e_bind, e_let, e_tr, e_tl, cLm1, cLm2, cL0, cL1, cL2, cL3, cL4, cL5, cL6, cL7, cL8, cL9, cL10, cL11, cL12, cL13, cL14, cL15, cL16, cL17, cL18, cL19, cL20, cL21, cL22, cL23, cL24, cL25, cL29, cL30, cL31, cL32, cL36, cL48, cL50, cL51, cL52, cL64, cL99, cL100, cL700, cL1000, cL9999, cL10000, cI_add, cI_sub, cI_mul, cI_neg, cI_lt, cI_le, cI_eq, ne_eq, ifp, ifn, bI_p, bI_n, aZ_0, aZ_1, aZ_b, e_gdt, e_ifT, e_ifF, not_true_eq_false, not_false_eq_true, e_gd, cL9999, (needGarden_eq hp hC ha1 ha2).1 x1, (needWind_eq hw1 hw2).1 x2]
            exact ok_someI ⟨rfl, H⟩
          · simp (disch := omega) only [e_bi, e_bind, e_let, e_tr, e_tl, cLm1, cLm2, cL0, cL1, cL2, cL3, cL4, cL5, cL6, cL7, cL8, cL9, cL10, cL11, cL12, cL13, cL14, cL15, cL16, cL17, cL18, cL19, cL20, cL21, cL22, cL23, cL24, cL25, cL29, cL30, cL31, cL32, cL36, cL48, cL50, cL51, cL52, cL64, cL99, cL100, cL700, cL1000, cL9999, cL10000, cI_add, cI_sub, cI_mul, cI_neg, cI_lt, cI_le, cI_eq, ne_eq, ifp, ifn, bI_p, bI_n, aZ_0, aZ_1, aZ_b, e_gdt, e_ifT, e_ifF, not_true_eq_false, not_false_eq_true, e_gd, cL9999, (needGarden_eq hp hC ha1 ha2).1 x1, (needWind_eq hw1 hw2).1 x2]
            exact ok_someI ⟨rfl, H⟩
        · have H0 := H.code (x := cI 0)
          have hM0 := H0.2.2.2.2.1
          unfold f_X12_prize
          simp (disch := omega) only [e_bi, e_bind, e_let, e_tr, e_tl, cLm1, cLm2, cL0, cL1, cL2, cL3, cL4, cL5, cL6, cL7, cL8, cL9, cL10, cL11, cL12, cL13, cL14, cL15, cL16, cL17, cL18, cL19, cL20, cL21, cL22, cL23, cL24, cL25, cL29, cL30, cL31, cL32, cL36, cL48, cL50, cL51, cL52, cL64, cL99, cL100, cL700, cL1000, cL9999, cL10000, cI_add, cI_sub, cI_mul, cI_neg, cI_lt, cI_le, cI_eq, ne_eq, ifp, ifn, bI_p, bI_n, aZ_0, aZ_1, aZ_b, e_gdt, e_ifT, e_ifF, not_true_eq_false, not_false_eq_true, e_gd, cL9999, isGarden_eq hp hM0, isIn_eq, fail_eq]
          exact ok_someI ⟨gI_eq, rfl, T, K, L, B, H0.code⟩
    · refine hp_step2 (fc := f_X11_prize (cI a) (cI w) (cI z) D) (fm := fun D => f_X12_prize (cI a) (cI w) (cI z) D) (P := lawP) (C := rel T K L B) (by decide) (.inr false) (fun D x h => h) ?_ (fun D H => ?_)
      · unfold f_X11_prize
        simp (disch := omega) only [e_bi, e_bind, e_let, e_tr, e_tl, cLm1, cLm2, cL0, cL1, cL2, cL3, cL4, cL5, cL6, cL7, cL8, cL9, cL10, cL11, cL12, cL13, cL14, cL15, cL16, cL17, cL18, cL19, cL20, cL21, cL22, cL23, cL24, cL25, cL29, cL30, cL31, cL32, cL36, cL48, cL50, cL51, cL52, cL64, cL99, cL100, cL700, cL1000, cL9999, cL10000, cI_add, cI_sub, cI_mul, cI_neg, cI_lt, cI_le, cI_eq, ne_eq, ifp, ifn, bI_p, bI_n, aZ_0, aZ_1, aZ_b, e_gdt, e_ifT, e_ifF, not_true_eq_false, not_false_eq_true, e_gd, (needGarden_eq hp hC ha1 ha2).1 x1, (needWind_eq hw1 hw2).2 x2]
        exact ok_someI ⟨rfl, H⟩
      · have H0 := H.code (x := cI 0)
        have hM0 := H0.2.2.2.2.1
        unfold f_X12_prize
        simp (disch := omega) only [e_bi, e_bind, e_let, e_tr, e_tl, cLm1, cLm2, cL0, cL1, cL2, cL3, cL4, cL5, cL6, cL7, cL8, cL9, cL10, cL11, cL12, cL13, cL14, cL15, cL16, cL17, cL18, cL19, cL20, cL21, cL22, cL23, cL24, cL25, cL29, cL30, cL31, cL32, cL36, cL48, cL50, cL51, cL52, cL64, cL99, cL100, cL700, cL1000, cL9999, cL10000, cI_add, cI_sub, cI_mul, cI_neg, cI_lt, cI_le, cI_eq, ne_eq, ifp, ifn, bI_p, bI_n, aZ_0, aZ_1, aZ_b, e_gdt, e_ifT, e_ifF, not_true_eq_false, not_false_eq_true, e_gd, isGarden_eq hp hM0, isIn_eq, fail_eq]
        exact ok_someI ⟨gI_eq, rfl, T, K, L, B, H0.code⟩
  · refine hp_step2 (fc := f_X11_prize (cI a) (cI w) (cI z) D) (fm := fun D => f_X12_prize (cI a) (cI w) (cI z) D) (P := lawP) (C := rel T K L B) (by decide) (.inr false) (fun D x h => h) ?_ (fun D H => ?_)
    · unfold f_X11_prize
      simp (disch := omega) only [e_bi, e_bind, e_let, e_tr, e_tl, cLm1, cLm2, cL0, cL1, cL2, cL3, cL4, cL5, cL6, cL7, cL8, cL9, cL10, cL11, cL12, cL13, cL14, cL15, cL16, cL17, cL18, cL19, cL20, cL21, cL22, cL23, cL24, cL25, cL29, cL30, cL31, cL32, cL36, cL48, cL50, cL51, cL52, cL64, cL99, cL100, cL700, cL1000, cL9999, cL10000, cI_add, cI_sub, cI_mul, cI_neg, cI_lt, cI_le, cI_eq, ne_eq, ifp, ifn, bI_p, bI_n, aZ_0, aZ_1, aZ_b, e_gdt, e_ifT, e_ifF, not_true_eq_false, not_false_eq_true, e_gd, (needGarden_eq hp hC ha1 ha2).2 x1]
      exact ok_someI ⟨rfl, H⟩
    · have H0 := H.code (x := cI 0)
      have hM0 := H0.2.2.2.2.1
      unfold f_X12_prize
      simp (disch := omega) only [e_bi, e_bind, e_let, e_tr, e_tl, cLm1, cLm2, cL0, cL1, cL2, cL3, cL4, cL5, cL6, cL7, cL8, cL9, cL10, cL11, cL12, cL13, cL14, cL15, cL16, cL17, cL18, cL19, cL20, cL21, cL22, cL23, cL24, cL25, cL29, cL30, cL31, cL32, cL36, cL48, cL50, cL51, cL52, cL64, cL99, cL100, cL700, cL1000, cL9999, cL10000, cI_add, cI_sub, cI_mul, cI_neg, cI_lt, cI_le, cI_eq, ne_eq, ifp, ifn, bI_p, bI_n, aZ_0, aZ_1, aZ_b, e_gdt, e_ifT, e_ifF, not_true_eq_false, not_false_eq_true, e_gd, isGarden_eq hp hM0, fail_eq]
      exact ok_someI ⟨gI_eq, rfl, T, K, L, B, H0.code⟩
end PRZ
