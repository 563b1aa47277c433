/-! bits: digits of an order, bytes of a word -/
section BIT
theorem cI_nat32 (a : Nat) : cI (a : Int) = Int32.ofNat a := Int32.ofInt_eq_ofNat
theorem bv_of (x : Int32) {a : Nat} (h : x.toBitVec.toNat = a) : x = cI (a : Int) := by
  rw [cI_nat32]
  refine Int32.toBitVec_inj.mp ?_
  show _ = BitVec.ofNat 32 _
  rw [← h, BitVec.ofNat_toNat, BitVec.setWidth_eq]
theorem tn_c {a : Nat} (h : a < 4294967296) : (cI (a : Int)).toBitVec.toNat = a := by
  rw [cI_nat32]
  show (BitVec.ofNat 32 a).toNat = a
  rw [BitVec.toNat_ofNat]
  exact Nat.mod_eq_of_lt h
theorem and7 {a : Int} (h1 : 0 ≤ a) (h2 : a < 2147483648) : cI a &&& 7 = cI (a % 8) := by
  obtain ⟨n, rfl⟩ : ∃ n : Nat, a = (n : Int) := ⟨a.toNat, by omega⟩
  have e : ((n : Int) % 8) = ((n % 8 : Nat) : Int) := by omega
  rw [e]
  refine bv_of _ ?_
  rw [Int32.toBitVec_and, BitVec.toNat_and, tn_c (by omega)]
  exact Nat.and_two_pow_sub_one_eq_mod n 3
theorem ushr_c {a : Int} {i : Nat} (h1 : 0 ≤ a) (h2 : a < 2147483648) (hi : i ≤ 5) : ((cI a).toUInt32 >>> ((cI (3 * (i : Int))).toUInt32 &&& Int32.toUInt32 31)).toInt32 = cI (a / 8 ^ i) := by
  obtain ⟨n, rfl⟩ : ∃ n : Nat, a = (n : Int) := ⟨a.toNat, by omega⟩
  have e : ((n : Int) / 8 ^ i) = ((n / 2 ^ (3 * i) : Nat) : Int) := by
    rw [Nat.pow_mul]
    simp
  rw [e]
  refine bv_of _ ?_
  have hi' : i = 0 ∨ i = 1 ∨ i = 2 ∨ i = 3 ∨ i = 4 ∨ i = 5 := by omega
  rcases hi' with rfl | rfl | rfl | rfl | rfl | rfl
  · show ((cI (n : Int)).toBitVec >>> (0 : Nat)).toNat = _
    rw [BitVec.toNat_ushiftRight, tn_c (by omega), Nat.shiftRight_eq_div_pow]
  · show ((cI (n : Int)).toBitVec >>> (3 : Nat)).toNat = _
    rw [BitVec.toNat_ushiftRight, tn_c (by omega), Nat.shiftRight_eq_div_pow]
  · show ((cI (n : Int)).toBitVec >>> (6 : Nat)).toNat = _
    rw [BitVec.toNat_ushiftRight, tn_c (by omega), Nat.shiftRight_eq_div_pow]
  · show ((cI (n : Int)).toBitVec >>> (9 : Nat)).toNat = _
    rw [BitVec.toNat_ushiftRight, tn_c (by omega), Nat.shiftRight_eq_div_pow]
  · show ((cI (n : Int)).toBitVec >>> (12 : Nat)).toNat = _
    rw [BitVec.toNat_ushiftRight, tn_c (by omega), Nat.shiftRight_eq_div_pow]
  · show ((cI (n : Int)).toBitVec >>> (15 : Nat)).toNat = _
    rw [BitVec.toNat_ushiftRight, tn_c (by omega), Nat.shiftRight_eq_div_pow]
theorem or_c {v d : Int} {i : Nat} (h1 : 0 ≤ v) (h2 : v < 8 ^ i) (h3 : 0 ≤ d) (h4 : d < 8) (hi : i < 5) : cI v ||| (cI d <<< (cI (3 * (i : Int)) &&& 31)) = cI (v + d * 8 ^ i) := by
  obtain ⟨n, rfl⟩ : ∃ n : Nat, v = (n : Int) := ⟨v.toNat, by omega⟩
  obtain ⟨m, rfl⟩ : ∃ m : Nat, d = (m : Int) := ⟨d.toNat, by omega⟩
  have go : ∀ k : Nat, k ≤ 12 → n < 2 ^ k → ((cI (n : Int)).toBitVec ||| ((cI (m : Int)).toBitVec <<< k)).toNat = n + m * 2 ^ k := by
    intro k hk hn
    have hp : 2 ^ k ≤ 2 ^ 12 := Nat.pow_le_pow_right (by omega) hk
    have hm : m * 2 ^ k ≤ 7 * 2 ^ 12 := Nat.mul_le_mul (by omega) hp
    rw [BitVec.toNat_or, BitVec.toNat_shiftLeft, tn_c (by omega), tn_c (by omega), Nat.shiftLeft_eq, Nat.mod_eq_of_lt (by omega), Nat.or_comm, ← Nat.shiftLeft_eq, ← Nat.shiftLeft_add_eq_or_of_lt hn, Nat.shiftLeft_eq, Nat.add_comm]
  have hi' : i = 0 ∨ i = 1 ∨ i = 2 ∨ i = 3 ∨ i = 4 := by omega
  rcases hi' with rfl | rfl | rfl | rfl | rfl
  · have e : (n : Int) + m * 8 ^ 0 = ((n + m * 2 ^ 0 : Nat) : Int) := by omega
    rw [e]; exact bv_of _ (go 0 (by omega) (by omega))
  · have e : (n : Int) + m * 8 ^ 1 = ((n + m * 2 ^ 3 : Nat) : Int) := by omega
    rw [e]; exact bv_of _ (go 3 (by omega) (by omega))
  · have e : (n : Int) + m * 8 ^ 2 = ((n + m * 2 ^ 6 : Nat) : Int) := by omega
    rw [e]; exact bv_of _ (go 6 (by omega) (by omega))
  · have e : (n : Int) + m * 8 ^ 3 = ((n + m * 2 ^ 9 : Nat) : Int) := by omega
    rw [e]; exact bv_of _ (go 9 (by omega) (by omega))
  · have e : (n : Int) + m * 8 ^ 4 = ((n + m * 2 ^ 12 : Nat) : Int) := by omega
    rw [e]; exact bv_of _ (go 12 (by omega) (by omega))
def orI (o : Nat → Int) (n : Nat) : Int := sgN n (fun i => o i * 8 ^ i)
def hiN (o : Nat → Int) (q : Nat) : Nat → Int
  | 0 => 0
  | k + 1 => 8 * hiN o q k + o (q - 1 - k)
theorem hi_or {o : Nat → Int} {q : Nat} (h : q ≤ 5) : hiN o q q = orI o q := by
  have e : q = 0 ∨ q = 1 ∨ q = 2 ∨ q = 3 ∨ q = 4 ∨ q = 5 := by omega
  unfold orI
  rcases e with rfl | rfl | rfl | rfl | rfl | rfl <;> simp only [hiN, sgN, Nat.sub_self, Nat.sub_zero, Nat.reduceSub, Nat.reduceAdd] <;> omega
theorem or_b {o : Nat → Int} {n : Nat} (hn : n ≤ 5) (ho : ∀ i : Nat, i < n → 0 ≤ o i ∧ o i < 8) : 0 ≤ orI o n ∧ orI o n < 8 ^ n := by
  have e : n = 0 ∨ n = 1 ∨ n = 2 ∨ n = 3 ∨ n = 4 ∨ n = 5 := by omega
  unfold orI
  rcases e with rfl | rfl | rfl | rfl | rfl | rfl
  · simp [sgN]
  · have a0 := ho 0 (by omega); simp only [sgN]; omega
  · have a0 := ho 0 (by omega); have a1 := ho 1 (by omega); simp only [sgN]; omega
  · have a0 := ho 0 (by omega); have a1 := ho 1 (by omega); have a2 := ho 2 (by omega); simp only [sgN]; omega
  · have a0 := ho 0 (by omega); have a1 := ho 1 (by omega); have a2 := ho 2 (by omega); have a3 := ho 3 (by omega); simp only [sgN]; omega
  · have a0 := ho 0 (by omega); have a1 := ho 1 (by omega); have a2 := ho 2 (by omega); have a3 := ho 3 (by omega); have a4 := ho 4 (by omega); simp only [sgN]; omega
theorem orderOf_eq {D : aD} {a q : Nat} {o : Nat → Int} (hq : q ≤ 5) (ho : ∀ i : Nat, i < q → gI D a i = cI (o i) ∧ 0 ≤ o i ∧ o i < 8) : f_X11_orderOf a 5 (cI (q : Int)) D = some (cI (orI o q), D) := by
  have L : aLp (fun s : Int32 × Int32 × aD => B_X11_orderOf_4 a 5 (cI (q : Int)) s.1 s.2.1 s.2.2) (cI 0, cI 0, D) = some (cI (orI o q), D) := by
    refine lp_cnt (body := fun s : Int32 × Int32 × aD => B_X11_orderOf_4 a 5 (cI (q : Int)) s.1 s.2.1 s.2.2) q (by omega) (fun i => (cI (orI o i), cI (i : Int), D)) (cI (orI o q), D) ?_ ?_
    · intro i hi
      have h := ho i hi
      have b := or_b (o := o) (n := i) (by omega) (fun j hj => (ho j (by omega)).2)
      have e : ((i : Int)).toNat = i := by omega
      show B_X11_orderOf_4 a 5 (cI (q : Int)) (cI (orI o i)) (cI (i : Int)) D = _
      unfold B_X11_orderOf_4
      rw [ofNat_c]
      simp (disch := omega) only [cI_le, ifn, e_gd, cI_inT, cI_nat, e, h.1, e_let, cL3, cI_mul, cL1, cI_add]
      rw [or_c b.1 b.2 h.2.1 h.2.2 (by omega)]
      rfl
    · show B_X11_orderOf_4 a 5 (cI (q : Int)) (cI (orI o q)) (cI (q : Int)) D = _
      unfold B_X11_orderOf_4
      simp (disch := omega) only [cI_le, ifp]
  unfold f_X11_orderOf J_X11_orderOf_4
  rw [show aLp (fun s : Int32 × Int32 × aD => B_X11_orderOf_4 a 5 (cI (q : Int)) s.1 s.2.1 s.2.2) (0, 0, D) = _ from L, e_bind]
  rfl
theorem numberOf_eq {D : aD} {a q : Nat} {o : Nat → Int} (hq : q ≤ 5) (m5 : gI D 91 5 = cI (q : Int)) (ho : ∀ i : Nat, i < q → gI D a i = cI (o i)) : f_X12_numberOf a 5 D = some (cI (orI o q), D) := by
  have L : aLp (fun s : Int32 × Int32 × aD => B_X12_numberOf_11 a 5 s.1 s.2.1 s.2.2) (cI 0, cI ((q : Int) - 1), D) = some (cI (orI o q), D) := by
    have h := lp_cnt (body := fun s : Int32 × Int32 × aD => B_X12_numberOf_11 a 5 s.1 s.2.1 s.2.2) q (by omega) (fun k => (cI (hiN o q k), cI ((q : Int) - 1 - k), D)) (cI (orI o q), D) ?_ ?_
    · simpa [hiN] using h
    · intro k hk
      have h := ho (q - 1 - k) (by omega)
      have e : ((q : Int) - 1 - (k : Int)).toNat = q - 1 - k := by omega
      show B_X12_numberOf_11 a 5 (cI (hiN o q k)) (cI ((q : Int) - 1 - k)) D = some (.inl (cI (hiN o q (k + 1)), cI ((q : Int) - 1 - ((k + 1 : Nat) : Int)), D))
      unfold B_X12_numberOf_11
      simp (disch := omega) only [e_bi, e_bind, e_let, e_tr, e_tl, cLm1, cLm2, cL0, cL1, cL2, cL3, cL4, cL5, cL6, cL7, cL8, cL9, cL10, cL11, cL12, cL13, cL14, cL15, cL16, cL17, cL18, cL19, cL20, cL21, cL22, cL23, cL24, cL25, cL29, cL30, cL31, cL32, cL36, cL48, cL50, cL51, cL52, cL64, cL99, cL100, cL700, cL1000, cL9999, cL10000, cI_add, cI_sub, cI_mul, cI_neg, cI_lt, cI_le, cI_eq, ne_eq, ifp, ifn, bI_p, bI_n, aZ_0, aZ_1, aZ_b, e_gdt, e_ifT, e_ifF, not_true_eq_false, not_false_eq_true, e_gd, cL8, cI_inT, cI_nat, e, h]
      rw [hiN, show (q : Int) - 1 - (k : Int) + -1 = (q : Int) - 1 - ((k + 1 : Nat) : Int) by omega]
    · show B_X12_numberOf_11 a 5 (cI (hiN o q q)) (cI ((q : Int) - 1 - (q : Int))) D = _
      unfold B_X12_numberOf_11
      rw [hi_or hq]
      simp (disch := omega) only [e_bi, e_bind, e_let, e_tr, e_tl, cLm1, cLm2, cL0, cL1, cL2, cL3, cL4, cL5, cL6, cL7, cL8, cL9, cL10, cL11, cL12, cL13, cL14, cL15, cL16, cL17, cL18, cL19, cL20, cL21, cL22, cL23, cL24, cL25, cL29, cL30, cL31, cL32, cL36, cL48, cL50, cL51, cL52, cL64, cL99, cL100, cL700, cL1000, cL9999, cL10000, cI_add, cI_sub, cI_mul, cI_neg, cI_lt, cI_le, cI_eq, ne_eq, ifp, ifn, bI_p, bI_n, aZ_0, aZ_1, aZ_b, e_gdt, e_ifT, e_ifF, not_true_eq_false, not_false_eq_true, e_gd]
  unfold f_X12_numberOf
  simp (disch := omega) only [e_bi, e_bind, e_let, e_tr, e_tl, cLm1, cLm2, cL0, cL1, cL2, cL3, cL4, cL5, cL6, cL7, cL8, cL9, cL10, cL11, cL12, cL13, cL14, cL15, cL16, cL17, cL18, cL19, cL20, cL21, cL22, cL23, cL24, cL25, cL29, cL30, cL31, cL32, cL36, cL48, cL50, cL51, cL52, cL64, cL99, cL100, cL700, cL1000, cL9999, cL10000, cI_add, cI_sub, cI_mul, cI_neg, cI_lt, cI_le, cI_eq, ne_eq, ifp, ifn, bI_p, bI_n, aZ_0, aZ_1, aZ_b, e_gdt, e_ifT, e_ifF, not_true_eq_false, not_false_eq_true, e_gd, cX0, cX1, cX2, cX3, cX4, cX5, cX6, cX7, cX8, cX9, cX10, cX11, cX12, cX13, cX14, cX15, cX16, cX17, cX18, cX19, cX20, cX21, cX22, cX23, cX24, cX25, cX29, cX30, cX31, cX32, cX36, Int.reduceToNat, cI_inT, m5]
  unfold J_X12_numberOf_11
  rw [L, e_bind]
  rfl
theorem step_8 {D : aD} {v1 v2 v3 v4 v5 : Int32} (h : lawP D) : Ok2 (f_law_8 v1 v2 v3 v4 v5 D) (fun r D => r = 1 ∧ lawP D) := by
  obtain ⟨T, K, L, B, H⟩ := h
  have ⟨hp, hn, hC, hN, hM, hR, _⟩ := H
  have hq := hp.1
  obtain ⟨-, -, q3, -⟩ := CP.two hC
  have r2 := (CNow.two hN).2.1
  have eq : (((T 0 5).toNat : Nat) : Int) = T 0 5 := by omega
  unfold f_law_8
  refine eq_step (fc := f_X11_order D) (fm := fun D => f_X12_order D) (P := lawP) (C := rel T K L B) (cI (orI (T 14) (T 0 5).toNat)) ?_ (fun D H => ?_)
  · have e := orderOf_eq (D := D) (a := 42) (q := (T 0 5).toNat) (o := T 14) (by omega) (fun i hi => ⟨r2 i (by omega), by have := hn.2.2.1 i (by omega); omega⟩)
    rw [eq] at e
    unfold f_X11_order
    rw [q3 5 (by omega) (by omega), e, e_bi]
    exact ok_someI ⟨rfl, H⟩
  · have H0 := H.code (x := cI 0)
    have m5 := (MT.two H0.2.2.2.2.1).1 5 (by omega)
    have m2 := (MNow.two H0.2.2.2.2.2.1).2.1
    have e := numberOf_eq (D := pI D 88 2 (cI 0)) (a := 107) (q := (T 0 5).toNat) (o := T 14) (by omega) (by rw [eq]; exact m5) (fun i hi => m2 i (by omega))
    unfold f_X12_order
    simp only [cL0, e_let]
    rw [e, e_bi]
    exact ok_someI ⟨rfl, T, K, L, B, H0⟩
end BIT
