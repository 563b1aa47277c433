/-! who is first; sum, winner -/
section FST
def fbN (U : Nat → Int) (b : Int) : Nat → Int
  | 0 => -1
  | n + 1 => if (n : Int) ≠ b ∧ (fbN U b n = -1 ∨ U (fbN U b n).toNat < U n) then (n : Int) else fbN U b n
theorem fb_b {U : Nat → Int} {b : Int} : ∀ n : Nat, -1 ≤ fbN U b n ∧ fbN U b n < n
  | 0 => by simp [fbN]
  | n + 1 => by
    have h := fb_b (U := U) (b := b) n
    rw [fbN]
    split <;> omega
theorem fb_0 {U : Nat → Int} : ∀ n : Nat, 0 ≤ fbN U (-1) (n + 1)
  | 0 => by simp [fbN]
  | n + 1 => by
    have h := fb_0 (U := U) n
    rw [fbN]
    split <;> omega
theorem fb_cg {U U' : Nat → Int} {b : Int} : ∀ n : Nat, (∀ g : Nat, g < n → U g = U' g) → fbN U b n = fbN U' b n
  | 0, _ => rfl
  | n + 1, h => by
    have a := fb_cg (b := b) n (fun g hg => h g (by omega))
    have c := fb_b (U := U') (b := b) n
    rw [fbN, fbN, a, h n (by omega)]
    by_cases x : fbN U' b n = -1
    · rw [x]; simp
    · rw [h (fbN U' b n).toNat (by omega)]
def uB (U : Nat → Int) : Prop := ∀ g : Nat, g < 5 → -1000000000 ≤ U g ∧ U g ≤ 1000000000
theorem first_eq {D : aD} {T : aT} {U : Nat → Int} (hp : TOKp T) (hC : CP D 2 T) (hU : ∀ g : Nat, g < 5 → gI D 66 g = cI (U g)) (hB : uB U) (hG : 0 < T 0 3) : f_X1_first D = some (cI (fbN U (-1) (T 0 3).toNat), D) := by
  have hq := hp.1
  obtain ⟨-, -, q3, -⟩ := CP.two hC
  have L : aLp (fun s : Int32 × Int32 × aD => B_X1_first_4 s.1 s.2.1 s.2.2) (cI 0, cI 1, D) = some (cI (fbN U (-1) (T 0 3).toNat), D) := by
    have h := lp_cnt (body := fun s : Int32 × Int32 × aD => B_X1_first_4 s.1 s.2.1 s.2.2) ((T 0 3).toNat - 1) (by omega) (fun i => (cI (fbN U (-1) (i + 1)), cI ((i : Int) + 1), D)) (cI (fbN U (-1) (T 0 3).toNat), D) ?_ ?_
    · exact h
    · intro i hi
      have b := fb_b (U := U) (b := -1) (i + 1)
      have b0 := fb_0 (U := U) i
      have u1 := hU (fbN U (-1) (i + 1)).toNat (by omega)
      have u2 := hU (i + 1) (by omega)
      have c1 := hB (fbN U (-1) (i + 1)).toNat (by omega)
      have c2 := hB (i + 1) (by omega)
      have e : ((i : Int) + 1).toNat = i + 1 := by omega
      show B_X1_first_4 (cI (fbN U (-1) (i + 1))) (cI ((i : Int) + 1)) D = some (.inl (cI (fbN U (-1) (i + 1 + 1)), cI (((i + 1 : Nat) : Int) + 1), D))
      rw [show fbN U (-1) (i + 1 + 1) = if ((i + 1 : Nat) : Int) ≠ -1 ∧ (fbN U (-1) (i + 1) = -1 ∨ U (fbN U (-1) (i + 1)).toNat < U (i + 1)) then ((i + 1 : Nat) : Int) else fbN U (-1) (i + 1) from rfl]
      unfold B_X1_first_4
      by_cases x : U (fbN U (-1) (i + 1)).toNat < U (i + 1)
      · simp (disch := omega) only [e_bi, e_bind, e_let, e_tr, e_tl, cLm1, cLm2, cL0, cL1, cL2, cL3, cL4, cL5, cL6, cL7, cL8, cL9, cL10, cL11, cL12, cL13, cL14, cL15, cL16, cL17, cL18, cL19, cL20, cL21, cL22, cL23, cL24, cL25, cL29, cL30, cL31, cL32, cL36, cL48, cL50, cL51, cL52, cL64, cL99, cL100, cL700, cL1000, cL9999, cL10000, cI_add, cI_sub, cI_mul, cI_neg, cI_lt, cI_le, cI_eq, ne_eq, ifp, ifn, bI_p, bI_n, aZ_0, aZ_1, aZ_b, e_gdt, e_ifT, e_ifF, not_true_eq_false, not_false_eq_true, e_gd, q3, cI_inT, cI_nat, e, u1, u2]
        rfl
      · simp (disch := omega) only [e_bi, e_bind, e_let, e_tr, e_tl, cLm1, cLm2, cL0, cL1, cL2, cL3, cL4, cL5, cL6, cL7, cL8, cL9, cL10, cL11, cL12, cL13, cL14, cL15, cL16, cL17, cL18, cL19, cL20, cL21, cL22, cL23, cL24, cL25, cL29, cL30, cL31, cL32, cL36, cL48, cL50, cL51, cL52, cL64, cL99, cL100, cL700, cL1000, cL9999, cL10000, cI_add, cI_sub, cI_mul, cI_neg, cI_lt, cI_le, cI_eq, ne_eq, ifp, ifn, bI_p, bI_n, aZ_0, aZ_1, aZ_b, e_gdt, e_ifT, e_ifF, not_true_eq_false, not_false_eq_true, e_gd, q3, cI_inT, cI_nat, e, u1, u2]
        rfl
    · have e : (T 0 3).toNat - 1 + 1 = (T 0 3).toNat := by omega
      show B_X1_first_4 (cI (fbN U (-1) ((T 0 3).toNat - 1 + 1))) (cI ((((T 0 3).toNat - 1 : Nat) : Int) + 1)) D = _
      rw [e]
      unfold B_X1_first_4
      simp (disch := omega) only [e_bi, e_bind, e_let, e_tr, e_tl, cLm1, cLm2, cL0, cL1, cL2, cL3, cL4, cL5, cL6, cL7, cL8, cL9, cL10, cL11, cL12, cL13, cL14, cL15, cL16, cL17, cL18, cL19, cL20, cL21, cL22, cL23, cL24, cL25, cL29, cL30, cL31, cL32, cL36, cL48, cL50, cL51, cL52, cL64, cL99, cL100, cL700, cL1000, cL9999, cL10000, cI_add, cI_sub, cI_mul, cI_neg, cI_lt, cI_le, cI_eq, ne_eq, ifp, ifn, bI_p, bI_n, aZ_0, aZ_1, aZ_b, e_gdt, e_ifT, e_ifF, not_true_eq_false, not_false_eq_true, e_gd, q3]
  unfold f_X1_first J_X1_first_4
  have L' := L
  rw [show (cI 0 : Int32) = 0 from rfl, show (cI 1 : Int32) = 1 from rfl] at L'
  rw [L', e_bind]
  rfl
theorem mfirst_eq {D : aD} {T : aT} {U : Nat → Int} {b : Int} (hq : 0 ≤ T 0 3 ∧ T 0 3 ≤ 5) (m3 : gI D 91 3 = cI (T 0 3)) (hU : ∀ g : Nat, g < 5 → gI D 112 g = cI (U g)) (hB : uB U) (h1 : -1 ≤ b) (h2 : b < 5) : f_X12_first (cI b) D = some (cI (fbN U b (T 0 3).toNat), D) := by
  have L : aLp (fun s : Int32 × Int32 × aD => B_X12_first_4 (cI b) s.1 s.2.1 s.2.2) (cI (-1), cI 0, D) = some (cI (fbN U b (T 0 3).toNat), D) := by
    have h := lp_cnt (body := fun s : Int32 × Int32 × aD => B_X12_first_4 (cI b) s.1 s.2.1 s.2.2) (T 0 3).toNat (by omega) (fun i => (cI (fbN U b i), cI (i : Int), D)) (cI (fbN U b (T 0 3).toNat), D) ?_ ?_
    · exact h
    · intro i hi
      have f := fb_b (U := U) (b := b) i
      have e : ((i : Int)).toNat = i := by omega
      have u2 := hU i (by omega)
      have c2 := hB i (by omega)
      show B_X12_first_4 (cI b) (cI (fbN U b i)) (cI (i : Int)) D = some (.inl (cI (fbN U b (i + 1)), cI (((i + 1 : Nat) : Int)), D))
      rw [fbN]
      unfold B_X12_first_4
      by_cases y : (i : Int) = b
      · simp (disch := omega) only [e_bi, e_bind, e_let, e_tr, e_tl, cLm1, cLm2, cL0, cL1, cL2, cL3, cL4, cL5, cL6, cL7, cL8, cL9, cL10, cL11, cL12, cL13, cL14, cL15, cL16, cL17, cL18, cL19, cL20, cL21, cL22, cL23, cL24, cL25, cL29, cL30, cL31, cL32, cL36, cL48, cL50, cL51, cL52, cL64, cL99, cL100, cL700, cL1000, cL9999, cL10000, cI_add, cI_sub, cI_mul, cI_neg, cI_lt, cI_le, cI_eq, ne_eq, ifp, ifn, bI_p, bI_n, aZ_0, aZ_1, aZ_b, e_gdt, e_ifT, e_ifF, not_true_eq_false, not_false_eq_true, e_gd, cX0, cX1, cX2, cX3, cX4, cX5, cX6, cX7, cX8, cX9, cX10, cX11, cX12, cX13, cX14, cX15, cX16, cX17, cX18, cX19, cX20, cX21, cX22, cX23, cX24, cX25, cX29, cX30, cX31, cX32, cX36, Int.reduceToNat, m3, cI_inT, cI_nat, e, u2]
        rfl
      · by_cases z : fbN U b i = -1
        · simp (disch := omega) only [e_bi, e_bind, e_let, e_tr, e_tl, cLm1, cLm2, cL0, cL1, cL2, cL3, cL4, cL5, cL6, cL7, cL8, cL9, cL10, cL11, cL12, cL13, cL14, cL15, cL16, cL17, cL18, cL19, cL20, cL21, cL22, cL23, cL24, cL25, cL29, cL30, cL31, cL32, cL36, cL48, cL50, cL51, cL52, cL64, cL99, cL100, cL700, cL1000, cL9999, cL10000, cI_add, cI_sub, cI_mul, cI_neg, cI_lt, cI_le, cI_eq, ne_eq, ifp, ifn, bI_p, bI_n, aZ_0, aZ_1, aZ_b, e_gdt, e_ifT, e_ifF, not_true_eq_false, not_false_eq_true, e_gd, cX0, cX1, cX2, cX3, cX4, cX5, cX6, cX7, cX8, cX9, cX10, cX11, cX12, cX13, cX14, cX15, cX16, cX17, cX18, cX19, cX20, cX21, cX22, cX23, cX24, cX25, cX29, cX30, cX31, cX32, cX36, Int.reduceToNat, m3, cI_inT, cI_nat, e, u2]
          rfl
        · have u1 := hU (fbN U b i).toNat (by omega)
          have c1 := hB (fbN U b i).toNat (by omega)
          by_cases x : U (fbN U b i).toNat < U i
          · simp (disch := omega) only [e_bi, e_bind, e_let, e_tr, e_tl, cLm1, cLm2, cL0, cL1, cL2, cL3, cL4, cL5, cL6, cL7, cL8, cL9, cL10, cL11, cL12, cL13, cL14, cL15, cL16, cL17, cL18, cL19, cL20, cL21, cL22, cL23, cL24, cL25, cL29, cL30, cL31, cL32, cL36, cL48, cL50, cL51, cL52, cL64, cL99, cL100, cL700, cL1000, cL9999, cL10000, cI_add, cI_sub, cI_mul, cI_neg, cI_lt, cI_le, cI_eq, ne_eq, ifp, ifn, bI_p, bI_n, aZ_0, aZ_1, aZ_b, e_gdt, e_ifT, e_ifF, not_true_eq_false, not_false_eq_true, e_gd, cX0, cX1, cX2, cX3, cX4, cX5, cX6, cX7, cX8, cX9, cX10, cX11, cX12, cX13, cX14, cX15, cX16, cX17, cX18, cX19, cX20, cX21, cX22, cX23, cX24, cX25, cX29, cX30, cX31, cX32, cX36, Int.reduceToNat, m3, cI_inT, cI_nat, e, u1, u2]
            rfl
          · simp (disch := omega) only [e_bi, e_bind, e_let, e_tr, e_tl, cLm1, cLm2, cL0, cL1, cL2, cL3, cL4, cL5, cL6, cL7, cL8, cL9, cL10, cL11, cL12, cL13, cL14, cL15, cL16, cL17, cL18, cL19, cL20, cL21, cL22, cL23, cL24, cL25, cL29, cL30, cL31, cL32, cL36, cL48, cL50, cL51, cL52, cL64, cL99, cL100, cL700, cL1000, cL9999, cL10000, cI_add, cI_sub, cI_mul, cI_neg, cI_lt, cI_le, cI_eq, ne_eq, ifp, ifn, bI_p, bI_n, aZ_0, aZ_1, aZ_b, e_gdt, e_ifT, e_ifF, not_true_eq_false, not_false_eq_true, e_gd, cX0, cX1, cX2, cX3, cX4, cX5, cX6, cX7, cX8, cX9, cX10, cX11, cX12, cX13, cX14, cX15, cX16, cX17, cX18, cX19, cX20, cX21, cX22, cX23, cX24, cX25, cX29, cX30, cX31, cX32, cX36, Int.reduceToNat, m3, cI_inT, cI_nat, e, u1, u2]
            rfl
    · show B_X12_first_4 (cI b) (cI (fbN U b (T 0 3).toNat)) (cI (((T 0 3).toNat : Nat) : Int)) D = _
      unfold B_X12_first_4
      simp (disch := omega) only [e_bi, e_bind, e_let, e_tr, e_tl, cLm1, cLm2, cL0, cL1, cL2, cL3, cL4, cL5, cL6, cL7, cL8, cL9, cL10, cL11, cL12, cL13, cL14, cL15, cL16, cL17, cL18, cL19, cL20, cL21, cL22, cL23, cL24, cL25, cL29, cL30, cL31, cL32, cL36, cL48, cL50, cL51, cL52, cL64, cL99, cL100, cL700, cL1000, cL9999, cL10000, cI_add, cI_sub, cI_mul, cI_neg, cI_lt, cI_le, cI_eq, ne_eq, ifp, ifn, bI_p, bI_n, aZ_0, aZ_1, aZ_b, e_gdt, e_ifT, e_ifF, not_true_eq_false, not_false_eq_true, e_gd, cX0, cX1, cX2, cX3, cX4, cX5, cX6, cX7, cX8, cX9, cX10, cX11, cX12, cX13, cX14, cX15, cX16, cX17, cX18, cX19, cX20, cX21, cX22, cX23, cX24, cX25, cX29, cX30, cX31, cX32, cX36, Int.reduceToNat, m3, cI_inT]
  unfold f_X12_first J_X12_first_4
  have L' := L
  rw [show (cI 0 : Int32) = 0 from rfl, show (cI (-1) : Int32) = -1 from rfl] at L'
  rw [L', e_bind]
  rfl
theorem lead_eq {D : aD} {T : aT} {U : Nat → Int} (hp : TOKp T) (hC : CP D 2 T) (hU : ∀ g : Nat, g < 5 → gI D 66 g = cI (U g)) (hB : uB U) (hG : 0 < T 0 3) :
    f_X1_lead D = some (cI (if fbN U (fbN U (-1) (T 0 3).toNat) (T 0 3).toNat = -1 then 0 else U (fbN U (-1) (T 0 3).toNat).toNat - U (fbN U (fbN U (-1) (T 0 3).toNat) (T 0 3).toNat).toNat), D) := by
  have hq := hp.1
  obtain ⟨-, -, q3, -⟩ := CP.two hC
  have b0 := fb_b (U := U) (b := -1) (T 0 3).toNat
  have b1 : 0 ≤ fbN U (-1) (T 0 3).toNat := by
    have h := fb_0 (U := U) ((T 0 3).toNat - 1)
    rwa [show (T 0 3).toNat - 1 + 1 = (T 0 3).toNat by omega] at h
  generalize hb : fbN U (-1) (T 0 3).toNat = b at b0 b1
  have L : aLp (fun s : Int32 × Int32 × aD => B_X1_lead_9 (cI b) s.1 s.2.1 s.2.2) (cI (-1), cI 0, D) = some (cI (fbN U b (T 0 3).toNat), D) := by
    have h := lp_cnt (body := fun s : Int32 × Int32 × aD => B_X1_lead_9 (cI b) s.1 s.2.1 s.2.2) (T 0 3).toNat (by omega) (fun i => (cI (fbN U b i), cI (i : Int), D)) (cI (fbN U b (T 0 3).toNat), D) ?_ ?_
    · exact h
    · intro i hi
      have f := fb_b (U := U) (b := b) i
      have e : ((i : Int)).toNat = i := by omega
      have u2 := hU i (by omega)
      have c2 := hB i (by omega)
      show B_X1_lead_9 (cI b) (cI (fbN U b i)) (cI (i : Int)) D = some (.inl (cI (fbN U b (i + 1)), cI (((i + 1 : Nat) : Int)), D))
      rw [fbN]
      unfold B_X1_lead_9
      by_cases y : (i : Int) = b
      · simp (disch := omega) only [e_bi, e_bind, e_let, e_tr, e_tl, cLm1, cLm2, cL0, cL1, cL2, cL3, cL4, cL5, cL6, cL7, cL8, cL9, cL10, cL11, cL12, cL13, cL14, cL15, cL16, cL17, cL18, cL19, cL20, cL21, cL22, cL23, cL24, cL25, cL29, cL30, cL31, cL32, cL36, cL48, cL50, cL51, cL52, cL64, cL99, cL100, cL700, cL1000, cL9999, cL10000, cI_add, cI_sub, cI_mul, cI_neg, cI_lt, cI_le, cI_eq, ne_eq, ifp, ifn, bI_p, bI_n, aZ_0, aZ_1, aZ_b, e_gdt, e_ifT, e_ifF, not_true_eq_false, not_false_eq_true, e_gd, q3, cI_inT, cI_nat, e, u2]
        rfl
      · by_cases z : fbN U b i = -1
        · simp (disch := omega) only [e_bi, e_bind, e_let, e_tr, e_tl, cLm1, cLm2, cL0, cL1, cL2, cL3, cL4, cL5, cL6, cL7, cL8, cL9, cL10, cL11, cL12, cL13, cL14, cL15, cL16, cL17, cL18, cL19, cL20, cL21, cL22, cL23, cL24, cL25, cL29, cL30, cL31, cL32, cL36, cL48, cL50, cL51, cL52, cL64, cL99, cL100, cL700, cL1000, cL9999, cL10000, cI_add, cI_sub, cI_mul, cI_neg, cI_lt, cI_le, cI_eq, ne_eq, ifp, ifn, bI_p, bI_n, aZ_0, aZ_1, aZ_b, e_gdt, e_ifT, e_ifF, not_true_eq_false, not_false_eq_true, e_gd, q3, cI_inT, cI_nat, e, u2]
          rfl
        · have u1 := hU (fbN U b i).toNat (by omega)
          have c1 := hB (fbN U b i).toNat (by omega)
          by_cases x : U (fbN U b i).toNat < U i
          · simp (disch := omega) only [e_bi, e_bind, e_let, e_tr, e_tl, cLm1, cLm2, cL0, cL1, cL2, cL3, cL4, cL5, cL6, cL7, cL8, cL9, cL10, cL11, cL12, cL13, cL14, cL15, cL16, cL17, cL18, cL19, cL20, cL21, cL22, cL23, cL24, cL25, cL29, cL30, cL31, cL32, cL36, cL48, cL50, cL51, cL52, cL64, cL99, cL100, cL700, cL1000, cL9999, cL10000, cI_add, cI_sub, cI_mul, cI_neg, cI_lt, cI_le, cI_eq, ne_eq, ifp, ifn, bI_p, bI_n, aZ_0, aZ_1, aZ_b, e_gdt, e_ifT, e_ifF, not_true_eq_false, not_false_eq_true, e_gd, q3, cI_inT, cI_nat, e, u1, u2]
            rfl
          · simp (disch := omega) only [e_bi, e_bind, e_let, e_tr, e_tl, cLm1, cLm2, cL0, cL1, cL2, cL3, cL4, cL5, cL6, cL7, cL8, cL9, cL10, cL11, cL12, cL13, cL14, cL15, cL16, cL17, cL18, cL19, cL20, cL21, cL22, cL23, cL24, cL25, cL29, cL30, cL31, cL32, cL36, cL48, cL50, cL51, cL52, cL64, cL99, cL100, cL700, cL1000, cL9999, cL10000, cI_add, cI_sub, cI_mul, cI_neg, cI_lt, cI_le, cI_eq, ne_eq, ifp, ifn, bI_p, bI_n, aZ_0, aZ_1, aZ_b, e_gdt, e_ifT, e_ifF, not_true_eq_false, not_false_eq_true, e_gd, q3, cI_inT, cI_nat, e, u1, u2]
            rfl
    · show B_X1_lead_9 (cI b) (cI (fbN U b (T 0 3).toNat)) (cI (((T 0 3).toNat : Nat) : Int)) D = _
      unfold B_X1_lead_9
      simp (disch := omega) only [e_bi, e_bind, e_let, e_tr, e_tl, cLm1, cLm2, cL0, cL1, cL2, cL3, cL4, cL5, cL6, cL7, cL8, cL9, cL10, cL11, cL12, cL13, cL14, cL15, cL16, cL17, cL18, cL19, cL20, cL21, cL22, cL23, cL24, cL25, cL29, cL30, cL31, cL32, cL36, cL48, cL50, cL51, cL52, cL64, cL99, cL100, cL700, cL1000, cL9999, cL10000, cI_add, cI_sub, cI_mul, cI_neg, cI_lt, cI_le, cI_eq, ne_eq, ifp, ifn, bI_p, bI_n, aZ_0, aZ_1, aZ_b, e_gdt, e_ifT, e_ifF, not_true_eq_false, not_false_eq_true, e_gd, q3]
  unfold f_X1_lead
  rw [first_eq hp hC hU hB hG, hb, e_bi]
  unfold J_X1_lead_9
  have L' := L
  rw [show (cI 0 : Int32) = 0 from rfl, show (cI (-1) : Int32) = -1 from rfl] at L'
  rw [L', e_bind]
  have f := fb_b (U := U) (b := b) (T 0 3).toNat
  unfold J_X1_lead_53
  by_cases z : fbN U b (T 0 3).toNat = -1
  · simp (disch := omega) only [e_bi, e_bind, e_let, e_tr, e_tl, cLm1, cLm2, cL0, cL1, cL2, cL3, cL4, cL5, cL6, cL7, cL8, cL9, cL10, cL11, cL12, cL13, cL14, cL15, cL16, cL17, cL18, cL19, cL20, cL21, cL22, cL23, cL24, cL25, cL29, cL30, cL31, cL32, cL36, cL48, cL50, cL51, cL52, cL64, cL99, cL100, cL700, cL1000, cL9999, cL10000, cI_add, cI_sub, cI_mul, cI_neg, cI_lt, cI_le, cI_eq, ne_eq, ifp, ifn, bI_p, bI_n, aZ_0, aZ_1, aZ_b, e_gdt, e_ifT, e_ifF, not_true_eq_false, not_false_eq_true, e_gd]
  · have u1 := hU b.toNat (by omega)
    have u2 := hU (fbN U b (T 0 3).toNat).toNat (by omega)
    simp (disch := omega) only [e_bi, e_bind, e_let, e_tr, e_tl, cLm1, cLm2, cL0, cL1, cL2, cL3, cL4, cL5, cL6, cL7, cL8, cL9, cL10, cL11, cL12, cL13, cL14, cL15, cL16, cL17, cL18, cL19, cL20, cL21, cL22, cL23, cL24, cL25, cL29, cL30, cL31, cL32, cL36, cL48, cL50, cL51, cL52, cL64, cL99, cL100, cL700, cL1000, cL9999, cL10000, cI_add, cI_sub, cI_mul, cI_neg, cI_lt, cI_le, cI_eq, ne_eq, ifp, ifn, bI_p, bI_n, aZ_0, aZ_1, aZ_b, e_gdt, e_ifT, e_ifF, not_true_eq_false, not_false_eq_true, e_gd, cI_inT, cI_nat, u1, u2]
theorem smG_u {T : aT} {w : Nat} (hp : TOKs T) : uB (smG T w) := fun g hg => by have := smG_b (w := w) hp hg; omega
theorem winnerBy_ok {D : aD} {T : aT} {w : Nat} (hp : TOKs T) (hM : MS D T) (hw : w < 5) :
    Ok (f_X12_winnerBy (cI (w : Int)) D) (fun r => r.1 = cI (fbN (smG T w) (-1) (T 0 3).toNat) ∧ (∀ g : Nat, g < 5 → gI r.2 112 g = cI (smG T w g)) ∧ (∀ k j : Nat, ¬ (108 ≤ k ∧ k ≤ 112) → gI r.2 k j = gI D k j) ∧ r.2.2 = D.2) := by
  have hq := hp.1
  unfold f_X12_winnerBy
  refine ok_bindI ((tellSums_ok (o := T 14) hp hM (Or.inl rfl) (fun i hi => ⟨hM.2.2.2.2.2.2.2.1 i (by omega), hp.2.2.2.2.2.2.2 i hi⟩) hw).mono fun D1 q => ?_)
  obtain ⟨q1, q2, q3⟩ := q
  have e := mfirst_eq (D := D1) (T := T) (U := smG T w) (b := -1) (by omega) ((q2 _ _ (by omega)).trans (hM.1 3 (by omega) (by omega))) q1 (smG_u hp) (by omega) (by omega)
  rw [show (-1 : Int32) = cI (-1) from rfl, e, e_bi]
  exact ok_someI ⟨rfl, q1, q2, q3⟩
/-- the class's way to the sums of one wind -/
theorem one_ok {D : aD} {T K : aT} {L : Int} {B : Nat → Int} {w : Nat} (H : rel T K L B D) (hw : w < 5) {β : Type} {kk : aD → Option β} {Q : β → Prop} (k : ∀ D' : aD, CP D' 2 T → (∀ g : Nat, g < 5 → gI D' 66 g = cI (smG T w g)) → rel T K L B D' → Ok (kk D') Q) :
    Ok ((f_X1_prepare (cI (w : Int)) D).bind (fun D => (f_X1_addUp (cI (w : Int)) D).bind kk)) Q := by
  have ⟨hp, hn, hC, hN, _⟩ := H
  refine ok_bindI ((prepare_ok hp hn hC hN hw).mono fun D1 q1 => ?_)
  have hC1 : CP D1 2 T := hC.fr hp (fun k j hk => q1.2 _ j (by omega))
  refine ok_bindI ((addUp_ok hp hC1 (TOKs.of hp hn) scn.rf q1.1 rfl hw (by have := hp.1; omega)).mono fun D2 q2 => ?_)
  exact k D2 (hC1.fr hp (fun k j hk => q2.2 _ j (by omega) (by omega) (by omega))) q2.1 (H.cls (fun k j a => (q2.2 k j (by omega) (by omega) (by omega)).trans (q1.2 k j (by omega))))
theorem step_12 {D : aD} {v1 v2 v3 v4 v5 : Int32} (h : lawP D) : Ok2 (f_law_12 v1 v2 v3 v4 v5 D) (fun r D => r = 1 ∧ lawP D) := by
  obtain ⟨T, K, L, B, H⟩ := h
  have ⟨hp, hn, hC, hN, hM, hR, _⟩ := H
  have hq := hp.1
  obtain ⟨a, rfl, ha1, ha2⟩ := cI_of v1
  obtain ⟨w, rfl, hw1, hw2⟩ := cI_of v2
  unfold f_law_12 f_L_sum
  by_cases x1 : 0 ≤ a ∧ a < T 0 3
  · by_cases x2 : 0 ≤ w ∧ w < 5
    · have ea : ((a.toNat : Nat) : Int) = a := by omega
      have ew : ((w.toNat : Nat) : Int) = w := by omega
      refine hp_step (fc := f_X11_sum (cI a) (cI w) D) (fm := fun D => f_X12_sum (cI a) (cI w) D) (P := lawP) (C := rel T K L B) (some (cI (smG T w.toNat a.toNat))) (fun D x h => h) ?_ (fun D H => ?_)
      · unfold f_X11_sum
        simp (disch := omega) only [e_bi, e_bind, e_let, e_tr, e_tl, cLm1, cLm2, cL0, cL1, cL2, cL3, cL4, cL5, cL6, cL7, cL8, cL9, cL10, cL11, cL12, cL13, cL14, cL15, cL16, cL17, cL18, cL19, cL20, cL21, cL22, cL23, cL24, cL25, cL29, cL30, cL31, cL32, cL36, cL48, cL50, cL51, cL52, cL64, cL99, cL100, cL700, cL1000, cL9999, cL10000, cI_add, cI_sub, cI_mul, cI_neg, cI_lt, cI_le, cI_eq, ne_eq, ifp, ifn, bI_p, bI_n, aZ_0, aZ_1, aZ_b, e_gdt, e_ifT, e_ifF, not_true_eq_false, not_false_eq_true, e_gd, (needGarden_eq hp hC ha1 ha2).1 x1, (needWind_eq hw1 hw2).1 x2]
        have k := one_ok (w := w.toNat) H (by omega) (kk := fun D_6 => aGd (aIn (cI a) 5) (some (Sum.inr (gI D_6 66 (cI a).toNatClampNeg), D_6))) (Q := fun r => r.1 = wX "java/util/NoSuchElementException" (some (cI (smG T w.toNat a.toNat))) ∧ rel T K L B r.2) (fun D' h1 h2 h3 => by
          have u := h2 a.toNat (by omega)
          simp (disch := omega) only [e_bi, e_bind, e_let, e_tr, e_tl, cLm1, cLm2, cL0, cL1, cL2, cL3, cL4, cL5, cL6, cL7, cL8, cL9, cL10, cL11, cL12, cL13, cL14, cL15, cL16, cL17, cL18, cL19, cL20, cL21, cL22, cL23, cL24, cL25, cL29, cL30, cL31, cL32, cL36, cL48, cL50, cL51, cL52, cL64, cL99, cL100, cL700, cL1000, cL9999, cL10000, cI_add, cI_sub, cI_mul, cI_neg, cI_lt, cI_le, cI_eq, ne_eq, ifp, ifn, bI_p, bI_n, aZ_0, aZ_1, aZ_b, e_gdt, e_ifT, e_ifF, not_true_eq_false, not_false_eq_true, e_gd, cI_inT, cI_nat, u]
          exact ok_someI ⟨rfl, h3⟩)
        rw [ew] at k
        exact k
      · have H0 := H.code (x := cI 0)
        have hM0 := H0.2.2.2.2.1
        have hMS := MS.of hM0 H0.2.2.2.2.2.1
        unfold f_X12_sum
        simp (disch := omega) only [e_bi, e_bind, e_let, e_tr, e_tl, cLm1, cLm2, cL0, cL1, cL2, cL3, cL4, cL5, cL6, cL7, cL8, cL9, cL10, cL11, cL12, cL13, cL14, cL15, cL16, cL17, cL18, cL19, cL20, cL21, cL22, cL23, cL24, cL25, cL29, cL30, cL31, cL32, cL36, cL48, cL50, cL51, cL52, cL64, cL99, cL100, cL700, cL1000, cL9999, cL10000, cI_add, cI_sub, cI_mul, cI_neg, cI_lt, cI_le, cI_eq, ne_eq, ifp, ifn, bI_p, bI_n, aZ_0, aZ_1, aZ_b, e_gdt, e_ifT, e_ifF, not_true_eq_false, not_false_eq_true, e_gd, isGarden_eq hp hM0, isIn_eq]
        have t := tellSums_ok (D := pI D 88 2 (cI 0)) (T := T) (o := T 14) (a := 107) (w := w.toNat) (TOKs.of hp hn) hMS (Or.inl rfl) (fun i hi => ⟨hMS.2.2.2.2.2.2.2.1 i (by omega), hn.2.2.1 i hi⟩) (by omega)
        rw [ew] at t
        refine ok_bindI (t.mono fun D1 q => ?_)
        have u : gI D1 112 a.toNat = cI (smG T w.toNat a.toNat) := q.1 a.toNat (by omega)
        simp (disch := omega) only [e_bi, e_bind, e_let, e_tr, e_tl, cLm1, cLm2, cL0, cL1, cL2, cL3, cL4, cL5, cL6, cL7, cL8, cL9, cL10, cL11, cL12, cL13, cL14, cL15, cL16, cL17, cL18, cL19, cL20, cL21, cL22, cL23, cL24, cL25, cL29, cL30, cL31, cL32, cL36, cL48, cL50, cL51, cL52, cL64, cL99, cL100, cL700, cL1000, cL9999, cL10000, cI_add, cI_sub, cI_mul, cI_neg, cI_lt, cI_le, cI_eq, ne_eq, ifp, ifn, bI_p, bI_n, aZ_0, aZ_1, aZ_b, e_gdt, e_ifT, e_ifF, not_true_eq_false, not_false_eq_true, e_gd, cI_inT, cI_nat, u]
        exact ok_someI ⟨⟨(q.2.1 _ _ (by omega)).trans gI_eq, rfl⟩, q.2.2, T, K, L, B, H0.mod (fun k j a => q.2.1 k j (by unfold mScr at a; omega))⟩
    · refine hp_step (fc := f_X11_sum (cI a) (cI w) D) (fm := fun D => f_X12_sum (cI a) (cI w) D) (P := lawP) (C := rel T K L B) none (fun D x h => h) ?_ (fun D H => ?_)
      · unfold f_X11_sum
        simp (disch := omega) only [e_bi, e_bind, e_let, e_tr, e_tl, cLm1, cLm2, cL0, cL1, cL2, cL3, cL4, cL5, cL6, cL7, cL8, cL9, cL10, cL11, cL12, cL13, cL14, cL15, cL16, cL17, cL18, cL19, cL20, cL21, cL22, cL23, cL24, cL25, cL29, cL30, cL31, cL32, cL36, cL48, cL50, cL51, cL52, cL64, cL99, cL100, cL700, cL1000, cL9999, cL10000, cI_add, cI_sub, cI_mul, cI_neg, cI_lt, cI_le, cI_eq, ne_eq, ifp, ifn, bI_p, bI_n, aZ_0, aZ_1, aZ_b, e_gdt, e_ifT, e_ifF, not_true_eq_false, not_false_eq_true, e_gd, (needGarden_eq hp hC ha1 ha2).1 x1, (needWind_eq hw1 hw2).2 x2]
        exact ok_someI ⟨rfl, H⟩
      · have H0 := H.code (x := cI 0)
        have hM0 := H0.2.2.2.2.1
        unfold f_X12_sum
        simp (disch := omega) only [e_bi, e_bind, e_let, e_tr, e_tl, cLm1, cLm2, cL0, cL1, cL2, cL3, cL4, cL5, cL6, cL7, cL8, cL9, cL10, cL11, cL12, cL13, cL14, cL15, cL16, cL17, cL18, cL19, cL20, cL21, cL22, cL23, cL24, cL25, cL29, cL30, cL31, cL32, cL36, cL48, cL50, cL51, cL52, cL64, cL99, cL100, cL700, cL1000, cL9999, cL10000, cI_add, cI_sub, cI_mul, cI_neg, cI_lt, cI_le, cI_eq, ne_eq, ifp, ifn, bI_p, bI_n, aZ_0, aZ_1, aZ_b, e_gdt, e_ifT, e_ifF, not_true_eq_false, not_false_eq_true, e_gd, isGarden_eq hp hM0, isIn_eq, fail_eq]
        exact ok_someI ⟨gI_eq, rfl, T, K, L, B, H0.code⟩
  · refine hp_step (fc := f_X11_sum (cI a) (cI w) D) (fm := fun D => f_X12_sum (cI a) (cI w) D) (P := lawP) (C := rel T K L B) none (fun D x h => h) ?_ (fun D H => ?_)
    · unfold f_X11_sum
      simp (disch := omega) only [e_bi, e_bind, e_let, e_tr, e_tl, cLm1, cLm2, cL0, cL1, cL2, cL3, cL4, cL5, cL6, cL7, cL8, cL9, cL10, cL11, cL12, cL13, cL14, cL15, cL16, cL17, cL18, cL19, cL20, cL21, cL22, cL23, cL24, cL25, cL29, cL30, cL31, cL32, cL36, cL48, cL50, cL51, cL52, cL64, cL99, cL100, cL700, cL1000, cL9999, cL10000, cI_add, cI_sub, cI_mul, cI_neg, cI_lt, cI_le, cI_eq, ne_eq, ifp, ifn, bI_p, bI_n, aZ_0, aZ_1, aZ_b, e_gdt, e_ifT, e_ifF, not_true_eq_false, not_false_eq_true, e_gd, (needGarden_eq hp hC ha1 ha2).2 x1]
      exact ok_someI ⟨rfl, H⟩
    · have H0 := H.code (x := cI 0)
      have hM0 := H0.2.2.2.2.1
      unfold f_X12_sum
      simp (disch := omega) only [e_bi, e_bind, e_let, e_tr, e_tl, cLm1, cLm2, cL0, cL1, cL2, cL3, cL4, cL5, cL6, cL7, cL8, cL9, cL10, cL11, cL12, cL13, cL14, cL15, cL16, cL17, cL18, cL19, cL20, cL21, cL22, cL23, cL24, cL25, cL29, cL30, cL31, cL32, cL36, cL48, cL50, cL51, cL52, cL64, cL99, cL100, cL700, cL1000, cL9999, cL10000, cI_add, cI_sub, cI_mul, cI_neg, cI_lt, cI_le, cI_eq, ne_eq, ifp, ifn, bI_p, bI_n, aZ_0, aZ_1, aZ_b, e_gdt, e_ifT, e_ifF, not_true_eq_false, not_false_eq_true, e_gd, isGarden_eq hp hM0, fail_eq]
      exact ok_someI ⟨gI_eq, rfl, T, K, L, B, H0.code⟩
def wnN (T : aT) (w : Nat) (what : Int) : Int := if what = 0 then fbN (smG T w) (-1) (T 0 3).toNat else if fbN (smG T w) (fbN (smG T w) (-1) (T 0 3).toNat) (T 0 3).toNat = -1 then 0 else smG T w (fbN (smG T w) (-1) (T 0 3).toNat).toNat - smG T w (fbN (smG T w) (fbN (smG T w) (-1) (T 0 3).toNat) (T 0 3).toNat).toNat
theorem step_13 {D : aD} {v1 v2 v3 v4 v5 : Int32} (h : lawP D) : Ok2 (f_law_13 v1 v2 v3 v4 v5 D) (fun r D => r = 1 ∧ lawP D) := by
  obtain ⟨T, K, L, B, H⟩ := h
  have ⟨hp, hn, hC, hN, hM, hR, _⟩ := H
  have hq := hp.1
  obtain ⟨w, rfl, hw1, hw2⟩ := cI_of v1
  obtain ⟨b, rfl, hb1, hb2⟩ := cI_of v2
  obtain ⟨-, -, q3, -⟩ := CP.two hC
  unfold f_law_13 f_L_winner
  by_cases x2 : 0 ≤ w ∧ w < 5
  · by_cases x3 : 0 ≤ b ∧ b < 2
    · have ew : ((w.toNat : Nat) : Int) = w := by omega
      have eb : b = 0 ∨ b = 1 := by omega
      refine hp_step (fc := f_X11_winner (cI w) (cI b) D) (fm := fun D => f_X12_winner (cI w) (cI b) D) (P := lawP) (C := rel T K L B) (some (cI (if T 0 3 = 0 then -1 else wnN T w.toNat b))) (fun D x h => h) ?_ (fun D H => ?_)
      · unfold f_X11_winner
        by_cases g : T 0 3 = 0
        · simp (disch := omega) only [e_bi, e_bind, e_let, e_tr, e_tl, cLm1, cLm2, cL0, cL1, cL2, cL3, cL4, cL5, cL6, cL7, cL8, cL9, cL10, cL11, cL12, cL13, cL14, cL15, cL16, cL17, cL18, cL19, cL20, cL21, cL22, cL23, cL24, cL25, cL29, cL30, cL31, cL32, cL36, cL48, cL50, cL51, cL52, cL64, cL99, cL100, cL700, cL1000, cL9999, cL10000, cI_add, cI_sub, cI_mul, cI_neg, cI_lt, cI_le, cI_eq, ne_eq, ifp, ifn, bI_p, bI_n, aZ_0, aZ_1, aZ_b, e_gdt, e_ifT, e_ifF, not_true_eq_false, not_false_eq_true, e_gd, (needWind_eq hw1 hw2).1 x2, isBelow_eq, need_1, q3]
          exact ok_someI ⟨rfl, H⟩
        · simp (disch := omega) only [e_bi, e_bind, e_let, e_tr, e_tl, cLm1, cLm2, cL0, cL1, cL2, cL3, cL4, cL5, cL6, cL7, cL8, cL9, cL10, cL11, cL12, cL13, cL14, cL15, cL16, cL17, cL18, cL19, cL20, cL21, cL22, cL23, cL24, cL25, cL29, cL30, cL31, cL32, cL36, cL48, cL50, cL51, cL52, cL64, cL99, cL100, cL700, cL1000, cL9999, cL10000, cI_add, cI_sub, cI_mul, cI_neg, cI_lt, cI_le, cI_eq, ne_eq, ifp, ifn, bI_p, bI_n, aZ_0, aZ_1, aZ_b, e_gdt, e_ifT, e_ifF, not_true_eq_false, not_false_eq_true, e_gd, (needWind_eq hw1 hw2).1 x2, isBelow_eq, need_1, q3]
          have k := fun (kk : aD → Option ((String ⊕ Int32) × aD)) h => one_ok (w := w.toNat) H (by omega) (kk := kk) (Q := fun r => r.1 = wX "java/util/NoSuchElementException" (some (cI (wnN T w.toNat b))) ∧ rel T K L B r.2) h
          rw [ew] at k
          refine k _ (fun D' h1 h2 h3 => ?_)
          have e1 := first_eq hp h1 h2 (smG_u (TOKs.of hp hn)) (by omega)
          have e2 := lead_eq hp h1 h2 (smG_u (TOKs.of hp hn)) (by omega)
          rcases eb with rfl | rfl
          · simp (disch := omega) only [e_bi, e_bind, e_let, e_tr, e_tl, cLm1, cLm2, cL0, cL1, cL2, cL3, cL4, cL5, cL6, cL7, cL8, cL9, cL10, cL11, cL12, cL13, cL14, cL15, cL16, cL17, cL18, cL19, cL20, cL21, cL22, cL23, cL24, cL25, cL29, cL30, cL31, cL32, cL36, cL48, cL50, cL51, cL52, cL64, cL99, cL100, cL700, cL1000, cL9999, cL10000, cI_add, cI_sub, cI_mul, cI_neg, cI_lt, cI_le, cI_eq, ne_eq, ifp, ifn, bI_p, bI_n, aZ_0, aZ_1, aZ_b, e_gdt, e_ifT, e_ifF, not_true_eq_false, not_false_eq_true, e_gd, e1]
            exact ok_someI ⟨rfl, h3⟩
          · simp (disch := omega) only [e_ifT, ifp, ifn, cL0, cI_eq, ne_eq, e2, e_bi]
            exact ok_someI ⟨rfl, h3⟩
      · have H0 := H.code (x := cI 0)
        have hM0 := H0.2.2.2.2.1
        have hMS := MS.of hM0 H0.2.2.2.2.2.1
        have t := winnerBy_ok (w := w.toNat) (TOKs.of hp hn) hMS (by omega)
        rw [ew] at t
        obtain ⟨⟨y, D1⟩, et, t1, t2, t3, t4⟩ := t
        obtain rfl : y = _ := t1
        have f0 := fb_b (U := smG T w.toNat) (b := -1) (T 0 3).toNat
        have t2' : ∀ g : Nat, g < 5 → gI D1 112 g = cI (smG T w.toNat g) := t2
        have t3' : ∀ k j : Nat, ¬ (108 ≤ k ∧ k ≤ 112) → gI D1 k j = gI (pI D 88 2 (cI 0)) k j := t3
        have e1 := mfirst_eq (D := D1) (T := T) (U := smG T w.toNat) (b := fbN (smG T w.toNat) (-1) (T 0 3).toNat) (by omega) ((t3' _ _ (by omega)).trans (hMS.1 3 (by omega) (by omega))) t2' (smG_u (TOKs.of hp hn)) (by omega) (by omega)
        have fin : ∀ y : Int32, Ok (some (y, D1)) (fun r => wM (some y) (gI r.2 88 2) r.1 ∧ r.2.2 = D.2 ∧ lawP r.2) := fun y => ok_someI ⟨⟨(t3' _ _ (by omega)).trans gI_eq, rfl⟩, t4, T, K, L, B, H0.mod (fun k j a => t3' k j (by unfold mScr at a; omega))⟩
        have fs := fb_b (U := smG T w.toNat) (b := fbN (smG T w.toNat) (-1) (T 0 3).toNat) (T 0 3).toNat
        unfold f_X12_winner
        by_cases g : T 0 3 = 0
        · have g0 : fbN (smG T w.toNat) (-1) (T 0 3).toNat = -1 := by rw [g]; rfl
          rw [g0] at et e1
          rcases eb with rfl | rfl
          · simp (disch := omega) only [e_bi, e_bind, e_let, e_tr, e_tl, cLm1, cLm2, cL0, cL1, cL2, cL3, cL4, cL5, cL6, cL7, cL8, cL9, cL10, cL11, cL12, cL13, cL14, cL15, cL16, cL17, cL18, cL19, cL20, cL21, cL22, cL23, cL24, cL25, cL29, cL30, cL31, cL32, cL36, cL48, cL50, cL51, cL52, cL64, cL99, cL100, cL700, cL1000, cL9999, cL10000, cI_add, cI_sub, cI_mul, cI_neg, cI_lt, cI_le, cI_eq, ne_eq, ifp, ifn, bI_p, bI_n, aZ_0, aZ_1, aZ_b, e_gdt, e_ifT, e_ifF, not_true_eq_false, not_false_eq_true, e_gd, isIn_eq, et, e1]
            exact fin _
          · simp (disch := omega) only [e_bi, e_bind, e_let, e_tr, e_tl, cLm1, cLm2, cL0, cL1, cL2, cL3, cL4, cL5, cL6, cL7, cL8, cL9, cL10, cL11, cL12, cL13, cL14, cL15, cL16, cL17, cL18, cL19, cL20, cL21, cL22, cL23, cL24, cL25, cL29, cL30, cL31, cL32, cL36, cL48, cL50, cL51, cL52, cL64, cL99, cL100, cL700, cL1000, cL9999, cL10000, cI_add, cI_sub, cI_mul, cI_neg, cI_lt, cI_le, cI_eq, ne_eq, ifp, ifn, bI_p, bI_n, aZ_0, aZ_1, aZ_b, e_gdt, e_ifT, e_ifF, not_true_eq_false, not_false_eq_true, e_gd, isIn_eq, et, e1]
            exact fin _
        · have g1 : 0 ≤ fbN (smG T w.toNat) (-1) (T 0 3).toNat := by
            have h := fb_0 (U := smG T w.toNat) ((T 0 3).toNat - 1)
            rwa [show (T 0 3).toNat - 1 + 1 = (T 0 3).toNat by omega] at h
          have u1 := t2' (fbN (smG T w.toNat) (-1) (T 0 3).toNat).toNat (by omega)
          rcases eb with rfl | rfl
          · simp (disch := omega) only [e_bi, e_bind, e_let, e_tr, e_tl, cLm1, cLm2, cL0, cL1, cL2, cL3, cL4, cL5, cL6, cL7, cL8, cL9, cL10, cL11, cL12, cL13, cL14, cL15, cL16, cL17, cL18, cL19, cL20, cL21, cL22, cL23, cL24, cL25, cL29, cL30, cL31, cL32, cL36, cL48, cL50, cL51, cL52, cL64, cL99, cL100, cL700, cL1000, cL9999, cL10000, cI_add, cI_sub, cI_mul, cI_neg, cI_lt, cI_le, cI_eq, ne_eq, ifp, ifn, bI_p, bI_n, aZ_0, aZ_1, aZ_b, e_gdt, e_ifT, e_ifF, not_true_eq_false, not_false_eq_true, e_gd, isIn_eq, et, e1]
            have ez : wnN T w.toNat 0 = fbN (smG T w.toNat) (-1) (T 0 3).toNat := by unfold wnN; rw [if_pos rfl]
            rw [ez]
            exact fin _
          · by_cases z : fbN (smG T w.toNat) (fbN (smG T w.toNat) (-1) (T 0 3).toNat) (T 0 3).toNat = -1
            · simp (disch := omega) only [e_bi, e_bind, e_let, e_tr, e_tl, cLm1, cLm2, cL0, cL1, cL2, cL3, cL4, cL5, cL6, cL7, cL8, cL9, cL10, cL11, cL12, cL13, cL14, cL15, cL16, cL17, cL18, cL19, cL20, cL21, cL22, cL23, cL24, cL25, cL29, cL30, cL31, cL32, cL36, cL48, cL50, cL51, cL52, cL64, cL99, cL100, cL700, cL1000, cL9999, cL10000, cI_add, cI_sub, cI_mul, cI_neg, cI_lt, cI_le, cI_eq, ne_eq, ifp, ifn, bI_p, bI_n, aZ_0, aZ_1, aZ_b, e_gdt, e_ifT, e_ifF, not_true_eq_false, not_false_eq_true, e_gd, isIn_eq, et, e1]
              have ez : wnN T w.toNat 1 = 0 := by unfold wnN; rw [if_neg (by omega), if_pos z]
              rw [ez]
              exact fin _
            · have u2 := t2' (fbN (smG T w.toNat) (fbN (smG T w.toNat) (-1) (T 0 3).toNat) (T 0 3).toNat).toNat (by omega)
              simp (disch := omega) only [e_bi, e_bind, e_let, e_tr, e_tl, cLm1, cLm2, cL0, cL1, cL2, cL3, cL4, cL5, cL6, cL7, cL8, cL9, cL10, cL11, cL12, cL13, cL14, cL15, cL16, cL17, cL18, cL19, cL20, cL21, cL22, cL23, cL24, cL25, cL29, cL30, cL31, cL32, cL36, cL48, cL50, cL51, cL52, cL64, cL99, cL100, cL700, cL1000, cL9999, cL10000, cI_add, cI_sub, cI_mul, cI_neg, cI_lt, cI_le, cI_eq, ne_eq, ifp, ifn, bI_p, bI_n, aZ_0, aZ_1, aZ_b, e_gdt, e_ifT, e_ifF, not_true_eq_false, not_false_eq_true, e_gd, isIn_eq, et, e1, cI_inT, cI_nat, u1, u2]
              have ez : wnN T w.toNat 1 = smG T w.toNat (fbN (smG T w.toNat) (-1) (T 0 3).toNat).toNat - smG T w.toNat (fbN (smG T w.toNat) (fbN (smG T w.toNat) (-1) (T 0 3).toNat) (T 0 3).toNat).toNat := by unfold wnN; rw [if_neg (by omega), if_neg z]
              rw [ez]
              exact fin _
    · refine hp_step (fc := f_X11_winner (cI w) (cI b) D) (fm := fun D => f_X12_winner (cI w) (cI b) D) (P := lawP) (C := rel T K L B) none (fun D x h => h) ?_ (fun D H => ?_)
      · unfold f_X11_winner
        simp (disch := omega) only [e_bi, e_bind, e_let, e_tr, e_tl, cLm1, cLm2, cL0, cL1, cL2, cL3, cL4, cL5, cL6, cL7, cL8, cL9, cL10, cL11, cL12, cL13, cL14, cL15, cL16, cL17, cL18, cL19, cL20, cL21, cL22, cL23, cL24, cL25, cL29, cL30, cL31, cL32, cL36, cL48, cL50, cL51, cL52, cL64, cL99, cL100, cL700, cL1000, cL9999, cL10000, cI_add, cI_sub, cI_mul, cI_neg, cI_lt, cI_le, cI_eq, ne_eq, ifp, ifn, bI_p, bI_n, aZ_0, aZ_1, aZ_b, e_gdt, e_ifT, e_ifF, not_true_eq_false, not_false_eq_true, e_gd, (needWind_eq hw1 hw2).1 x2, isBelow_eq, need_0]
        exact ok_someI ⟨rfl, H⟩
      · have H0 := H.code (x := cI 0)
        unfold f_X12_winner
        by_cases z : b < 0
        · simp (disch := omega) only [e_bi, e_bind, e_let, e_tr, e_tl, cLm1, cLm2, cL0, cL1, cL2, cL3, cL4, cL5, cL6, cL7, cL8, cL9, cL10, cL11, cL12, cL13, cL14, cL15, cL16, cL17, cL18, cL19, cL20, cL21, cL22, cL23, cL24, cL25, cL29, cL30, cL31, cL32, cL36, cL48, cL50, cL51, cL52, cL64, cL99, cL100, cL700, cL1000, cL9999, cL10000, cI_add, cI_sub, cI_mul, cI_neg, cI_lt, cI_le, cI_eq, ne_eq, ifp, ifn, bI_p, bI_n, aZ_0, aZ_1, aZ_b, e_gdt, e_ifT, e_ifF, not_true_eq_false, not_false_eq_true, e_gd, isIn_eq, fail_eq]
          exact ok_someI ⟨gI_eq, rfl, T, K, L, B, H0.code⟩
        · simp (disch := omega) only [e_bi, e_bind, e_let, e_tr, e_tl, cLm1, cLm2, cL0, cL1, cL2, cL3, cL4, cL5, cL6, cL7, cL8, cL9, cL10, cL11, cL12, cL13, cL14, cL15, cL16, cL17, cL18, cL19, cL20, cL21, cL22, cL23, cL24, cL25, cL29, cL30, cL31, cL32, cL36, cL48, cL50, cL51, cL52, cL64, cL99, cL100, cL700, cL1000, cL9999, cL10000, cI_add, cI_sub, cI_mul, cI_neg, cI_lt, cI_le, cI_eq, ne_eq, ifp, ifn, bI_p, bI_n, aZ_0, aZ_1, aZ_b, e_gdt, e_ifT, e_ifF, not_true_eq_false, not_false_eq_true, e_gd, isIn_eq, fail_eq]
          exact ok_someI ⟨gI_eq, rfl, T, K, L, B, H0.code⟩
  · refine hp_step (fc := f_X11_winner (cI w) (cI b) D) (fm := fun D => f_X12_winner (cI w) (cI b) D) (P := lawP) (C := rel T K L B) none (fun D x h => h) ?_ (fun D H => ?_)
    · unfold f_X11_winner
      simp (disch := omega) only [e_bi, e_bind, e_let, e_tr, e_tl, cLm1, cLm2, cL0, cL1, cL2, cL3, cL4, cL5, cL6, cL7, cL8, cL9, cL10, cL11, cL12, cL13, cL14, cL15, cL16, cL17, cL18, cL19, cL20, cL21, cL22, cL23, cL24, cL25, cL29, cL30, cL31, cL32, cL36, cL48, cL50, cL51, cL52, cL64, cL99, cL100, cL700, cL1000, cL9999, cL10000, cI_add, cI_sub, cI_mul, cI_neg, cI_lt, cI_le, cI_eq, ne_eq, ifp, ifn, bI_p, bI_n, aZ_0, aZ_1, aZ_b, e_gdt, e_ifT, e_ifF, not_true_eq_false, not_false_eq_true, e_gd, (needWind_eq hw1 hw2).2 x2]
      exact ok_someI ⟨rfl, H⟩
    · have H0 := H.code (x := cI 0)
      unfold f_X12_winner
      simp (disch := omega) only [e_bi, e_bind, e_let, e_tr, e_tl, cLm1, cLm2, cL0, cL1, cL2, cL3, cL4, cL5, cL6, cL7, cL8, cL9, cL10, cL11, cL12, cL13, cL14, cL15, cL16, cL17, cL18, cL19, cL20, cL21, cL22, cL23, cL24, cL25, cL29, cL30, cL31, cL32, cL36, cL48, cL50, cL51, cL52, cL64, cL99, cL100, cL700, cL1000, cL9999, cL10000, cI_add, cI_sub, cI_mul, cI_neg, cI_lt, cI_le, cI_eq, ne_eq, ifp, ifn, bI_p, bI_n, aZ_0, aZ_1, aZ_b, e_gdt, e_ifT, e_ifF, not_true_eq_false, not_false_eq_true, e_gd, isIn_eq, fail_eq]
      exact ok_someI ⟨gI_eq, rfl, T, K, L, B, H0.code⟩
end FST
