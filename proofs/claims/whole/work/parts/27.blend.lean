/-! a place: what is there raw, masked, noticed; what a garden gets -/
section BLN
theorem lp_cnt {σ ρ : Type} {body : σ → Option (σ ⊕ ρ)} (n : Nat) (hn : n < 999999999) (st : Nat → σ) (q : ρ) (hs : ∀ i : Nat, i < n → body (st i) = some (.inl (st (i + 1)))) (he : body (st n) = some (.inr q)) : aLp body (st 0) = some q := by
  have h : Ok (aLp body (st 0)) (fun r => r = q) := by
    refine ok_lp (fun i s => s = st i) n hn rfl ?_
    rintro i s hi rfl
    by_cases c : i < n
    · rw [hs i c]; exact ok_someI (Or.inl ⟨_, rfl, c, rfl⟩)
    · obtain rfl : i = n := by omega
      rw [he]; exact ok_someI (Or.inr ⟨_, rfl, rfl⟩)
  obtain ⟨a, e, rfl⟩ := h
  exact e
theorem ok_eq {α : Type} {o : Option α} {a : α} (h : Ok o (fun r => r = a)) : o = some a := by
  obtain ⟨b, e, rfl⟩ := h
  exact e
def sgN : Nat → (Nat → Int) → Int
  | 0, _ => 0
  | n + 1, f => sgN n f + f n
theorem sg_cg {f g : Nat → Int} : ∀ n : Nat, (∀ p : Nat, p < n → f p = g p) → sgN n f = sgN n g
  | 0, _ => rfl
  | n + 1, h => by rw [sgN, sgN, sg_cg n (fun p hp => h p (by omega)), h n (by omega)]
theorem sg_b {f : Nat → Int} {B : Int} : ∀ n : Nat, (∀ p : Nat, p < n → 0 ≤ f p ∧ f p ≤ B) → 0 ≤ sgN n f ∧ sgN n f ≤ n * B
  | 0, _ => by simp [sgN]
  | n + 1, h => by
    have a := sg_b n (fun p hp => h p (by omega))
    have b := h n (by omega)
    rw [sgN, show ((n + 1 : Nat) : Int) * B = n * B + B by rw [Int.natCast_add, Int.add_mul]; omega]
    omega
theorem sg_bs {f : Nat → Int} {B : Int} : ∀ n : Nat, (∀ p : Nat, p < n → -B ≤ f p ∧ f p ≤ B) → -(n * B) ≤ sgN n f ∧ sgN n f ≤ n * B
  | 0, _ => by simp [sgN]
  | n + 1, h => by
    have a := sg_bs n (fun p hp => h p (by omega))
    have b := h n (by omega)
    rw [sgN, show ((n + 1 : Nat) : Int) * B = n * B + B by rw [Int.natCast_add, Int.add_mul]; omega]
    omega
theorem sg_le {f g : Nat → Int} : ∀ n : Nat, (∀ p : Nat, p < n → f p ≤ g p) → sgN n f ≤ sgN n g
  | 0, _ => by simp [sgN]
  | n + 1, h => by
    have a := sg_le n (fun p hp => h p (by omega))
    have b := h n (by omega)
    rw [sgN, sgN]
    omega
theorem sg_0 {f : Nat → Int} : ∀ n : Nat, (∀ p : Nat, p < n → f p = 0) → sgN n f = 0
  | 0, _ => rfl
  | n + 1, h => by rw [sgN, sg_0 n (fun p hp => h p (by omega)), h n (by omega)]; rfl
def bN (D : aD) (R O : Nat → Int) : Prop := (∀ j : Nat, j < 6 → gI D 58 j = cI (R j)) ∧ (∀ k : Nat, k < 30 → gI D 59 k = cI (O k))
def bB (R O : Nat → Int) : Prop := (∀ j : Nat, j < 6 → 0 ≤ R j ∧ R j ≤ 4680) ∧ (∀ g s : Nat, g < 5 → s < 6 → 0 ≤ O (g * 6 + s) ∧ O (g * 6 + s) ≤ R s)
def maN (T : aT) (R : Nat → Int) (s m : Nat) : Int := T 12 (m * 6 + s) * R m / 100
def mkN (T : aT) (R : Nat → Int) (s : Nat) : Int := mxI (R s - sgN (T 0 2).toNat (maN T R s))
def ntN (T : aT) (v : Int) : Int := if v < T 0 9 then 0 else v
def lsN (T : aT) (R O : Nat → Int) (g s : Nat) (nt : Int) : Int := if R s = 0 then 0 else T 6 s * (nt * O (g * 6 + s) / R s)
def lkN (T : aT) (R O : Nat → Int) (g s : Nat) : Int := lsN T R O g s (ntN T (mkN T R s))
def mrN (T : aT) (R O : Nat → Int) (g : Nat) : Int := sgN (T 0 2).toNat (lkN T R O g)
theorem ma_b {T : aT} {R O : Nat → Int} {s m : Nat} (hT : ∀ m : Nat, m < 36 → 0 ≤ T 12 m ∧ T 12 m ≤ 100) (hB : bB R O) (hs : s < 6) (hm : m < 6) : 0 ≤ T 12 (m * 6 + s) * R m ∧ T 12 (m * 6 + s) * R m ≤ 468000 ∧ 0 ≤ maN T R s m ∧ maN T R s m ≤ 4680 := by
  have a := hT (m * 6 + s) (by omega)
  have b := hB.1 m hm
  have c := mulB a.1 a.2 b.1 b.2
  unfold maN
  omega
theorem mk_b {T : aT} {R O : Nat → Int} {s : Nat} (hT : ∀ m : Nat, m < 36 → 0 ≤ T 12 m ∧ T 12 m ≤ 100) (hS : 0 ≤ T 0 2 ∧ T 0 2 ≤ 6) (hB : bB R O) (hs : s < 6) : 0 ≤ mkN T R s ∧ mkN T R s ≤ R s := by
  have a := sg_b (f := maN T R s) (B := 4680) (T 0 2).toNat (fun m hm => ⟨(ma_b hT hB hs (by omega)).2.2.1, (ma_b hT hB hs (by omega)).2.2.2⟩)
  have b := hB.1 s hs
  unfold mkN mxI
  split <;> omega
theorem nt_b {T : aT} {v B : Int} (h1 : 0 ≤ v) (h2 : v ≤ B) : 0 ≤ ntN T v ∧ ntN T v ≤ B := by
  unfold ntN
  split <;> omega
theorem dv_b {a b c : Int} (h1 : 0 ≤ a) (h2 : 0 ≤ b) (h3 : b ≤ c) (h4 : 0 < c) : 0 ≤ a * b / c ∧ a * b / c ≤ a := by
  have e := Int.mul_nonneg h1 h2
  refine ⟨Int.ediv_nonneg e (by omega), ?_⟩
  refine Int.ediv_le_of_le_mul h4 ?_
  exact Int.mul_le_mul_of_nonneg_left h3 h1
theorem ls_b {T : aT} {R O : Nat → Int} {g s : Nat} {nt : Int} (hL : -9 ≤ T 6 s ∧ T 6 s ≤ 9) (hB : bB R O) (hg : g < 5) (hs : s < 6) (h1 : 0 ≤ nt) (h2 : nt ≤ 4680) : -42120 ≤ lsN T R O g s nt ∧ lsN T R O g s nt ≤ 42120 := by
  have a := hB.1 s hs
  have b := hB.2 g s hg hs
  unfold lsN
  by_cases c : R s = 0
  · rw [if_pos c]; omega
  · rw [if_neg c]
    have d := dv_b h1 b.1 b.2 (show 0 < R s by omega)
    have e := mulS d.1 (show nt * O (g * 6 + s) / R s ≤ 4680 by omega) hL.1 hL.2
    rw [Int.mul_comm]
    omega
theorem lk_b {T : aT} {R O : Nat → Int} {g s : Nat} (hT : ∀ m : Nat, m < 36 → 0 ≤ T 12 m ∧ T 12 m ≤ 100) (hS : 0 ≤ T 0 2 ∧ T 0 2 ≤ 6) (hL : -9 ≤ T 6 s ∧ T 6 s ≤ 9) (hB : bB R O) (hg : g < 5) (hs : s < 6) : -42120 ≤ lkN T R O g s ∧ lkN T R O g s ≤ 42120 := by
  have a := mk_b (s := s) hT hS hB hs
  have b := hB.1 s hs
  have c := nt_b (T := T) a.1 (show mkN T R s ≤ 4680 by omega)
  exact ls_b hL hB hg hs c.1 c.2
theorem masked_eq {D : aD} {T : aT} {R O : Nat → Int} {s : Nat} (hp : TOKp T) (hC : CP D 2 T) (hN : bN D R O) (hB : bB R O) (hs : s < 6) : f_X0_masked (cI (s : Int)) D = some (cI (mkN T R s), D) := by
  have hq := hp.1
  have hT := hp.2.2.2.2.2
  obtain ⟨-, -, q3, -, -, -, -, -, -, q9⟩ := CP.two hC
  have r := hB.1 s hs
  have e : ((s : Int)).toNat = s := by omega
  have n1 := hN.1 s hs
  unfold f_X0_masked
  rcases hC.2.2.2.2.2.2.2.2.1 s hs with ⟨k1, k2⟩ | k1
  · have k1' : gI D 13 s = cI 0 := k1
    simp (disch := omega) only [e_bi, e_bind, e_let, e_tr, e_tl, cLm1, cLm2, cL0, cL1, cL2, cL3, cL4, cL5, cL6, cL7, cL8, cL9, cL10, cL11, cL12, cL13, cL14, cL15, cL16, cL17, cL18, cL19, cL20, cL21, cL22, cL23, cL24, cL25, cL29, cL30, cL31, cL32, cL36, cL48, cL50, cL51, cL52, cL64, cL99, cL100, cL700, cL1000, cL9999, cL10000, cI_add, cI_sub, cI_mul, cI_neg, cI_lt, cI_le, cI_eq, ne_eq, ifp, ifn, bI_p, bI_n, aZ_0, aZ_1, aZ_b, e_gdt, e_ifT, e_ifF, not_true_eq_false, not_false_eq_true, e_gd, cI_inT, cI_nat, e, n1, k1']
    have e0 : sgN (T 0 2).toNat (maN T R s) = 0 := sg_0 _ (fun m hm => by unfold maN; rw [k2 m (by omega)]; simp)
    unfold mkN mxI
    rw [e0]
    by_cases c : 0 < R s - 0
    · rw [if_pos c, Int.sub_zero]
    · rw [if_neg c, show R s = 0 by omega]
  · have k1' : gI D 13 s = cI 1 := k1
    have L : aLp (fun t : Int32 × Int32 × aD => B_X0_masked_23 (cI (s : Int)) t.1 t.2.1 t.2.2) (cI (R s), cI 0, D) = some (cI (R s - sgN (T 0 2).toNat (maN T R s)), D) := by
      have h := lp_cnt (body := fun t : Int32 × Int32 × aD => B_X0_masked_23 (cI (s : Int)) t.1 t.2.1 t.2.2) (T 0 2).toNat (by omega) (fun i => (cI (R s - sgN i (maN T R s)), cI (i : Int), D)) (cI (R s - sgN (T 0 2).toNat (maN T R s)), D) ?_ ?_
      · have e1 : R s - sgN 0 (maN T R s) = R s := by simp [sgN]
        have h' := h
        simp only [e1] at h'
        exact h'
      · intro i hi
        have m1 := ma_b (s := s) (m := i) hT hB hs (by omega)
        have n2 := hN.1 i (by omega)
        have q9' := q9 (i * 6 + s) (by omega)
        have e2 : ((i : Int) * 6 + (s : Int)).toNat = i * 6 + s := by omega
        have e3 : ((i : Int)).toNat = i := by omega
        show B_X0_masked_23 (cI (s : Int)) (cI (R s - sgN i (maN T R s))) (cI (i : Int)) D = _
        unfold B_X0_masked_23
        simp (disch := omega) only [e_bi, e_bind, e_let, e_tr, e_tl, cLm1, cLm2, cL0, cL1, cL2, cL3, cL4, cL5, cL6, cL7, cL8, cL9, cL10, cL11, cL12, cL13, cL14, cL15, cL16, cL17, cL18, cL19, cL20, cL21, cL22, cL23, cL24, cL25, cL29, cL30, cL31, cL32, cL36, cL48, cL50, cL51, cL52, cL64, cL99, cL100, cL700, cL1000, cL9999, cL10000, cI_add, cI_sub, cI_mul, cI_neg, cI_lt, cI_le, cI_eq, ne_eq, ifp, ifn, bI_p, bI_n, aZ_0, aZ_1, aZ_b, e_gdt, e_ifT, e_ifF, not_true_eq_false, not_false_eq_true, e_gd, q3, cI_inT, cI_nat, e2, e3, n2, q9', cI_div]
        rw [sgN]
        unfold maN
        rw [← Int.sub_sub]
        rfl
      · show B_X0_masked_23 (cI (s : Int)) (cI (R s - sgN (T 0 2).toNat (maN T R s))) (cI (((T 0 2).toNat : Nat) : Int)) D = _
        unfold B_X0_masked_23
        simp (disch := omega) only [e_bi, e_bind, e_let, e_tr, e_tl, cLm1, cLm2, cL0, cL1, cL2, cL3, cL4, cL5, cL6, cL7, cL8, cL9, cL10, cL11, cL12, cL13, cL14, cL15, cL16, cL17, cL18, cL19, cL20, cL21, cL22, cL23, cL24, cL25, cL29, cL30, cL31, cL32, cL36, cL48, cL50, cL51, cL52, cL64, cL99, cL100, cL700, cL1000, cL9999, cL10000, cI_add, cI_sub, cI_mul, cI_neg, cI_lt, cI_le, cI_eq, ne_eq, ifp, ifn, bI_p, bI_n, aZ_0, aZ_1, aZ_b, e_gdt, e_ifT, e_ifF, not_true_eq_false, not_false_eq_true, e_gd, q3]
    have b := sg_b (f := maN T R s) (B := 4680) (T 0 2).toNat (fun m hm => ⟨(ma_b hT hB hs (by omega)).2.2.1, (ma_b hT hB hs (by omega)).2.2.2⟩)
    simp (disch := omega) only [e_gd, e_gdt, e_let, cI_inT, cI_nat, e, n1, k1', ne_eq]
    rw [ifp (show ¬ (cI 1 = 0) by decide)]
    unfold J_X0_masked_23
    have L' := L
    rw [show (cI 0 : Int32) = 0 from rfl] at L'
    rw [L', e_bind]
    unfold J_X0_masked_67 mkN mxI
    by_cases c : 0 ≤ R s - sgN (T 0 2).toNat (maN T R s)
    · by_cases c2 : 0 < R s - sgN (T 0 2).toNat (maN T R s)
      · simp (disch := omega) only [e_bi, e_bind, e_let, e_tr, e_tl, cLm1, cLm2, cL0, cL1, cL2, cL3, cL4, cL5, cL6, cL7, cL8, cL9, cL10, cL11, cL12, cL13, cL14, cL15, cL16, cL17, cL18, cL19, cL20, cL21, cL22, cL23, cL24, cL25, cL29, cL30, cL31, cL32, cL36, cL48, cL50, cL51, cL52, cL64, cL99, cL100, cL700, cL1000, cL9999, cL10000, cI_add, cI_sub, cI_mul, cI_neg, cI_lt, cI_le, cI_eq, ne_eq, ifp, ifn, bI_p, bI_n, aZ_0, aZ_1, aZ_b, e_gdt, e_ifT, e_ifF, not_true_eq_false, not_false_eq_true, e_gd]
      · simp (disch := omega) only [e_bi, e_bind, e_let, e_tr, e_tl, cLm1, cLm2, cL0, cL1, cL2, cL3, cL4, cL5, cL6, cL7, cL8, cL9, cL10, cL11, cL12, cL13, cL14, cL15, cL16, cL17, cL18, cL19, cL20, cL21, cL22, cL23, cL24, cL25, cL29, cL30, cL31, cL32, cL36, cL48, cL50, cL51, cL52, cL64, cL99, cL100, cL700, cL1000, cL9999, cL10000, cI_add, cI_sub, cI_mul, cI_neg, cI_lt, cI_le, cI_eq, ne_eq, ifp, ifn, bI_p, bI_n, aZ_0, aZ_1, aZ_b, e_gdt, e_ifT, e_ifF, not_true_eq_false, not_false_eq_true, e_gd]
        rw [show R s - sgN (T 0 2).toNat (maN T R s) = 0 by omega]
    · simp (disch := omega) only [e_bi, e_bind, e_let, e_tr, e_tl, cLm1, cLm2, cL0, cL1, cL2, cL3, cL4, cL5, cL6, cL7, cL8, cL9, cL10, cL11, cL12, cL13, cL14, cL15, cL16, cL17, cL18, cL19, cL20, cL21, cL22, cL23, cL24, cL25, cL29, cL30, cL31, cL32, cL36, cL48, cL50, cL51, cL52, cL64, cL99, cL100, cL700, cL1000, cL9999, cL10000, cI_add, cI_sub, cI_mul, cI_neg, cI_lt, cI_le, cI_eq, ne_eq, ifp, ifn, bI_p, bI_n, aZ_0, aZ_1, aZ_b, e_gdt, e_ifT, e_ifF, not_true_eq_false, not_false_eq_true, e_gd]
theorem noticed_eq {D : aD} {T : aT} {v : Int} (hp : TOKp T) (hC : CP D 2 T) (h1 : 0 ≤ v) (h2 : v ≤ 1000000) : f_X0_noticed (cI v) D = some (cI (ntN T v), D) := by
  have hq := hp.1
  obtain ⟨-, -, q3, -⟩ := CP.two hC
  unfold f_X0_noticed ntN
  by_cases c : v < T 0 9
  · simp (disch := omega) only [e_bi, e_bind, e_let, e_tr, e_tl, cLm1, cLm2, cL0, cL1, cL2, cL3, cL4, cL5, cL6, cL7, cL8, cL9, cL10, cL11, cL12, cL13, cL14, cL15, cL16, cL17, cL18, cL19, cL20, cL21, cL22, cL23, cL24, cL25, cL29, cL30, cL31, cL32, cL36, cL48, cL50, cL51, cL52, cL64, cL99, cL100, cL700, cL1000, cL9999, cL10000, cI_add, cI_sub, cI_mul, cI_neg, cI_lt, cI_le, cI_eq, ne_eq, ifp, ifn, bI_p, bI_n, aZ_0, aZ_1, aZ_b, e_gdt, e_ifT, e_ifF, not_true_eq_false, not_false_eq_true, e_gd, q3]
  · simp (disch := omega) only [e_bi, e_bind, e_let, e_tr, e_tl, cLm1, cLm2, cL0, cL1, cL2, cL3, cL4, cL5, cL6, cL7, cL8, cL9, cL10, cL11, cL12, cL13, cL14, cL15, cL16, cL17, cL18, cL19, cL20, cL21, cL22, cL23, cL24, cL25, cL29, cL30, cL31, cL32, cL36, cL48, cL50, cL51, cL52, cL64, cL99, cL100, cL700, cL1000, cL9999, cL10000, cI_add, cI_sub, cI_mul, cI_neg, cI_lt, cI_le, cI_eq, ne_eq, ifp, ifn, bI_p, bI_n, aZ_0, aZ_1, aZ_b, e_gdt, e_ifT, e_ifF, not_true_eq_false, not_false_eq_true, e_gd, q3]
theorem share_eq {D : aD} {T : aT} {R O : Nat → Int} {g s : Nat} {nt : Int} (hp : TOKp T) (hC : CP D 2 T) (hN : bN D R O) (hB : bB R O) (hg : g < 5) (hs : (s : Int) < T 0 2) (h1 : 0 ≤ nt) (h2 : nt ≤ 4680) : f_X0_likedShare (cI (g : Int)) (cI (s : Int)) (cI nt) D = some (cI (lsN T R O g s nt), D) := by
  have hq := hp.1
  have a := hB.1 s (by omega)
  have b := hB.2 g s hg (by omega)
  have n1 := hN.1 s (by omega)
  have n2 := hN.2 (g * 6 + s) (by omega)
  obtain ⟨-, -, -, -, -, s6, -⟩ := CP.srt hC hs
  have c := mulB h1 h2 b.1 (show O (g * 6 + s) ≤ 4680 by omega)
  have e2 : ((g : Int) * 6 + (s : Int)).toNat = g * 6 + s := by omega
  have e3 : ((s : Int)).toNat = s := by omega
  unfold f_X0_likedShare lsN
  by_cases x : R s = 0
  · by_cases y : O (g * 6 + s) = 0
    · simp (disch := omega) only [e_bi, e_bind, e_let, e_tr, e_tl, cLm1, cLm2, cL0, cL1, cL2, cL3, cL4, cL5, cL6, cL7, cL8, cL9, cL10, cL11, cL12, cL13, cL14, cL15, cL16, cL17, cL18, cL19, cL20, cL21, cL22, cL23, cL24, cL25, cL29, cL30, cL31, cL32, cL36, cL48, cL50, cL51, cL52, cL64, cL99, cL100, cL700, cL1000, cL9999, cL10000, cI_add, cI_sub, cI_mul, cI_neg, cI_lt, cI_le, cI_eq, ne_eq, ifp, ifn, bI_p, bI_n, aZ_0, aZ_1, aZ_b, e_gdt, e_ifT, e_ifF, not_true_eq_false, not_false_eq_true, e_gd, cI_inT, cI_nat, e2, e3, n1, n2]
    · simp (disch := omega) only [e_bi, e_bind, e_let, e_tr, e_tl, cLm1, cLm2, cL0, cL1, cL2, cL3, cL4, cL5, cL6, cL7, cL8, cL9, cL10, cL11, cL12, cL13, cL14, cL15, cL16, cL17, cL18, cL19, cL20, cL21, cL22, cL23, cL24, cL25, cL29, cL30, cL31, cL32, cL36, cL48, cL50, cL51, cL52, cL64, cL99, cL100, cL700, cL1000, cL9999, cL10000, cI_add, cI_sub, cI_mul, cI_neg, cI_lt, cI_le, cI_eq, ne_eq, ifp, ifn, bI_p, bI_n, aZ_0, aZ_1, aZ_b, e_gdt, e_ifT, e_ifF, not_true_eq_false, not_false_eq_true, e_gd, cI_inT, cI_nat, e2, e3, n1, n2]
  · by_cases y : O (g * 6 + s) = 0
    · simp (disch := omega) only [e_bi, e_bind, e_let, e_tr, e_tl, cLm1, cLm2, cL0, cL1, cL2, cL3, cL4, cL5, cL6, cL7, cL8, cL9, cL10, cL11, cL12, cL13, cL14, cL15, cL16, cL17, cL18, cL19, cL20, cL21, cL22, cL23, cL24, cL25, cL29, cL30, cL31, cL32, cL36, cL48, cL50, cL51, cL52, cL64, cL99, cL100, cL700, cL1000, cL9999, cL10000, cI_add, cI_sub, cI_mul, cI_neg, cI_lt, cI_le, cI_eq, ne_eq, ifp, ifn, bI_p, bI_n, aZ_0, aZ_1, aZ_b, e_gdt, e_ifT, e_ifF, not_true_eq_false, not_false_eq_true, e_gd, cI_inT, cI_nat, e2, e3, n1, n2]
      rw [y]
      simp
    · simp (disch := omega) only [e_bi, e_bind, e_let, e_tr, e_tl, cLm1, cLm2, cL0, cL1, cL2, cL3, cL4, cL5, cL6, cL7, cL8, cL9, cL10, cL11, cL12, cL13, cL14, cL15, cL16, cL17, cL18, cL19, cL20, cL21, cL22, cL23, cL24, cL25, cL29, cL30, cL31, cL32, cL36, cL48, cL50, cL51, cL52, cL64, cL99, cL100, cL700, cL1000, cL9999, cL10000, cI_add, cI_sub, cI_mul, cI_neg, cI_lt, cI_le, cI_eq, ne_eq, ifp, ifn, bI_p, bI_n, aZ_0, aZ_1, aZ_b, e_gdt, e_ifT, e_ifF, not_true_eq_false, not_false_eq_true, e_gd, cI_inT, cI_nat, e2, e3, n1, n2, s6, aNz_c, cI_div]
theorem markOf_eq {D : aD} {T : aT} {R O : Nat → Int} {g : Nat} (hp : TOKp T) (hC : CP D 2 T) (hN : bN D R O) (hB : bB R O) (hg : g < 5) : f_X0_markOf (cI (g : Int)) D = some (cI (mrN T R O g), D) := by
  have hq := hp.1
  have hT := hp.2.2.2.2.2
  obtain ⟨-, -, q3, -⟩ := CP.two hC
  have L : aLp (fun t : Int32 × Int32 × aD => B_X0_markOf_4 (cI (g : Int)) t.1 t.2.1 t.2.2) (cI 0, cI 0, D) = some (cI (mrN T R O g), D) := by
    refine lp_cnt (body := fun t : Int32 × Int32 × aD => B_X0_markOf_4 (cI (g : Int)) t.1 t.2.1 t.2.2) (T 0 2).toNat (by omega) (fun i => (cI (sgN i (lkN T R O g)), cI (i : Int), D)) (cI (mrN T R O g), D) ?_ ?_
    · intro i hi
      have m := mk_b (s := i) hT (by omega) hB (by omega)
      have r := hB.1 i (by omega)
      have n := nt_b (T := T) m.1 (show mkN T R i ≤ 4680 by omega)
      show B_X0_markOf_4 (cI (g : Int)) (cI (sgN i (lkN T R O g))) (cI (i : Int)) D = _
      unfold B_X0_markOf_4
      simp (disch := omega) only [e_bi, e_bind, e_let, e_tr, e_tl, cLm1, cLm2, cL0, cL1, cL2, cL3, cL4, cL5, cL6, cL7, cL8, cL9, cL10, cL11, cL12, cL13, cL14, cL15, cL16, cL17, cL18, cL19, cL20, cL21, cL22, cL23, cL24, cL25, cL29, cL30, cL31, cL32, cL36, cL48, cL50, cL51, cL52, cL64, cL99, cL100, cL700, cL1000, cL9999, cL10000, cI_add, cI_sub, cI_mul, cI_neg, cI_lt, cI_le, cI_eq, ne_eq, ifp, ifn, bI_p, bI_n, aZ_0, aZ_1, aZ_b, e_gdt, e_ifT, e_ifF, not_true_eq_false, not_false_eq_true, e_gd, q3, masked_eq hp hC hN hB, noticed_eq hp hC, share_eq hp hC hN hB hg]
      rw [sgN]
      rfl
    · show B_X0_markOf_4 (cI (g : Int)) (cI (sgN (T 0 2).toNat (lkN T R O g))) (cI (((T 0 2).toNat : Nat) : Int)) D = _
      unfold B_X0_markOf_4
      simp (disch := omega) only [e_bi, e_bind, e_let, e_tr, e_tl, cLm1, cLm2, cL0, cL1, cL2, cL3, cL4, cL5, cL6, cL7, cL8, cL9, cL10, cL11, cL12, cL13, cL14, cL15, cL16, cL17, cL18, cL19, cL20, cL21, cL22, cL23, cL24, cL25, cL29, cL30, cL31, cL32, cL36, cL48, cL50, cL51, cL52, cL64, cL99, cL100, cL700, cL1000, cL9999, cL10000, cI_add, cI_sub, cI_mul, cI_neg, cI_lt, cI_le, cI_eq, ne_eq, ifp, ifn, bI_p, bI_n, aZ_0, aZ_1, aZ_b, e_gdt, e_ifT, e_ifF, not_true_eq_false, not_false_eq_true, e_gd, q3]
      rfl
  unfold f_X0_markOf J_X0_markOf_4
  have L' := L
  rw [show (cI 0 : Int32) = 0 from rfl] at L'
  rw [L', e_bind]
  rfl
end BLN
