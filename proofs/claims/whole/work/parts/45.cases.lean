/-! cases: answers (22) -/
section CAS
theorem u16c {a : Int} (h1 : 0 ≤ a) (h2 : a < 2147483648) : ((cI a).toUInt32 >>> ((cI 16).toUInt32 &&& Int32.toUInt32 (cI 31))).toInt32 = cI (a / 65536) := by
  obtain ⟨n, rfl⟩ : ∃ n : Nat, a = (n : Int) := ⟨a.toNat, by omega⟩
  have e : ((n : Int) / 65536) = ((n / 65536 : Nat) : Int) := by omega
  rw [e]
  refine bv_of _ ?_
  show ((cI (n : Int)).toBitVec >>> (16 : Nat)).toNat = _
  rw [BitVec.toNat_ushiftRight, tn_c (by omega), Nat.shiftRight_eq_div_pow]
theorem u8c {a : Int} (h1 : 0 ≤ a) (h2 : a < 2147483648) : ((cI a).toUInt32 >>> ((cI 8).toUInt32 &&& Int32.toUInt32 (cI 31))).toInt32 = cI (a / 256) := by
  obtain ⟨n, rfl⟩ : ∃ n : Nat, a = (n : Int) := ⟨a.toNat, by omega⟩
  have e : ((n : Int) / 256) = ((n / 256 : Nat) : Int) := by omega
  rw [e]
  refine bv_of _ ?_
  show ((cI (n : Int)).toBitVec >>> (8 : Nat)).toNat = _
  rw [BitVec.toNat_ushiftRight, tn_c (by omega), Nat.shiftRight_eq_div_pow]
theorem a255c {a : Int} (h1 : 0 ≤ a) (h2 : a < 2147483648) : cI a &&& 255 = cI (a % 256) := by
  obtain ⟨n, rfl⟩ : ∃ n : Nat, a = (n : Int) := ⟨a.toNat, by omega⟩
  rw [and255, tn_c (by omega)]
  rfl
theorem cf_mem {T : aT} {w : Nat} {q : Nat × Nat} : ∀ n : Nat, q ∈ cfN T w n → q.1 = w ∧ q.2 < n
  | 0, h => by cases h
  | n + 1, h => by
    rw [cfN, List.mem_append] at h
    rcases h with h | h
    · have := cf_mem n h
      omega
    · split at h
      · rw [List.mem_singleton] at h
        subst h
        exact ⟨rfl, Nat.lt_succ_self n⟩
      · cases h
theorem cs_mem {T : aT} {q : Nat × Nat} : ∀ w : Nat, q ∈ csN T w → q.1 < w ∧ q.2 < mxK T
  | 0, h => by cases h
  | w + 1, h => by
    rw [csN, List.mem_append] at h
    rcases h with h | h
    · have := cs_mem w h
      omega
    · split at h
      · have := cf_mem _ h
        omega
      · cases h
theorem numOf_eq {D : aD} {T : aT} {a : Nat} {q : Nat × Nat} (hp : TOKp T) (hC : CP D 2 T) (ha : a < 1925) (h : gI D 80 a = cI (enC T q)) (h1 : q.1 < 5) (h2 : q.2 < mxK T) :
    f_X10_numberOf (cI (a : Int)) D = some (cI (1000 * (q.1 : Int) + (q.2 : Int)), D) := by
  have hq := hp.1
  obtain ⟨p1, p2, -⟩ := hC
  have p1' : gI D 3 0 = cI (T 0 0) := p1
  have p2' : gI D 3 1 = cI (T 0 1) := p2
  have mk := mxK_b (T := T) (by omega) (by omega)
  have e : ((a : Int)).toNat = a := by omega
  unfold f_X10_numberOf f_X4_cells
  by_cases z : q.2 = 0
  · have en : enC T q = (q.1 : Int) * 65536 := by unfold enC; rw [if_pos z]
    rw [en] at h
    have d1 : (q.1 : Int) * 65536 / 65536 = q.1 := by omega
    have d2 : (q.1 : Int) * 65536 / 256 % 256 - 1 = -1 := by omega
    have d3 : (q.1 : Int) * 65536 % 256 = 0 := by omega
    simp (disch := omega) only [e_bi, e_bind, e_let, e_tr, e_tl, cLm1, cLm2, cL0, cL1, cL2, cL3, cL4, cL5, cL6, cL7, cL8, cL9, cL10, cL11, cL12, cL13, cL14, cL15, cL16, cL17, cL18, cL19, cL20, cL21, cL22, cL23, cL24, cL25, cL29, cL30, cL31, cL32, cL36, cL48, cL50, cL51, cL52, cL64, cL99, cL100, cL700, cL1000, cL9999, cL10000, cI_add, cI_sub, cI_mul, cI_neg, cI_lt, cI_le, cI_eq, ne_eq, ifp, ifn, bI_p, bI_n, aZ_0, aZ_1, aZ_b, e_gdt, e_ifT, e_ifF, not_true_eq_false, not_false_eq_true, e_gd, cI_inT, cI_nat, e, h, u16c, u8c, a255c, d1, d2, d3, z]
    exact congrArg some (congrArg (fun x => (cI x, D)) (by omega))
  · have v := kv_b (T := T) (k := q.2) (by omega) (by omega) h2 z
    have cl : ((clN T : Nat) : Int) = T 0 0 * T 0 1 := by unfold clN; omega
    have en : enC T q = (q.1 : Int) * 65536 + ((ksN T q.2 : Nat) + 1) * 256 + (kcN T q.2 : Nat) := by unfold enC; rw [if_neg z]
    rw [en] at h
    have d1 : ((q.1 : Int) * 65536 + ((ksN T q.2 : Nat) + 1) * 256 + (kcN T q.2 : Nat)) / 65536 = q.1 := by omega
    have d2 : ((q.1 : Int) * 65536 + ((ksN T q.2 : Nat) + 1) * 256 + (kcN T q.2 : Nat)) / 256 % 256 - 1 = (ksN T q.2 : Nat) := by omega
    have d3 : ((q.1 : Int) * 65536 + ((ksN T q.2 : Nat) + 1) * 256 + (kcN T q.2 : Nat)) % 256 = (kcN T q.2 : Nat) := by omega
    simp (disch := omega) only [e_bi, e_bind, e_let, e_tr, e_tl, cLm1, cLm2, cL0, cL1, cL2, cL3, cL4, cL5, cL6, cL7, cL8, cL9, cL10, cL11, cL12, cL13, cL14, cL15, cL16, cL17, cL18, cL19, cL20, cL21, cL22, cL23, cL24, cL25, cL29, cL30, cL31, cL32, cL36, cL48, cL50, cL51, cL52, cL64, cL99, cL100, cL700, cL1000, cL9999, cL10000, cI_add, cI_sub, cI_mul, cI_neg, cI_lt, cI_le, cI_eq, ne_eq, ifp, ifn, bI_p, bI_n, aZ_0, aZ_1, aZ_b, e_gdt, e_ifT, e_ifF, not_true_eq_false, not_false_eq_true, e_gd, cI_inT, cI_nat, e, h, u16c, u8c, a255c, d1, d2, d3, p1', p2']
    refine congrArg some (congrArg (fun x => (cI x, D)) ?_)
    rw [← cl]
    have k : (q.2 : Int) = 1 + (clN T : Nat) * (ksN T q.2 : Nat) + (kcN T q.2 : Nat) := by
      have := congrArg (fun x : Nat => (x : Int)) v.2.2
      simpa using this
    rw [k, Int.mul_comm (q.1 : Int) 1000]
theorem frC_fr {T : aT} {D D' : aD} (f : frC T D D') (h30 : gI D' 88 30 = gI D 88 30) : ∀ k j : Nat, ¬ mScr k j → ¬ (j = (T 0 4).toNat ∧ (k = 99 ∨ k = 100 ∨ k = 101 ∨ k = 106)) → gI D' k j = gI D k j := fun k j a b => by
  by_cases e : k = 88 ∧ j = 30
  · obtain ⟨rfl, rfl⟩ := e
    exact h30
  · exact f.1 k j (by unfold mScr at a; omega) (by unfold mScr at a; omega) (by unfold mScr at a; omega) b
def csW (T : aT) (a : Int) : Option Int32 := if a < -1 then none else if a = -1 then some (cI ((csN T 5).length : Int)) else ((csN T 5)[a.toNat]?).map (fun q => cI (1000 * (q.1 : Int) + (q.2 : Int)))
theorem step_22 {D : aD} {v1 v2 v3 v4 v5 : Int32} (h : lawP D) : Ok2 (f_law_22 v1 v2 v3 v4 v5 D) (fun r D => r = 1 ∧ lawP D) := by
  obtain ⟨T, K, L, B, H⟩ := h
  have ⟨hp, hn, hC, hN, hM, hR, _⟩ := H
  have hq := hp.1
  obtain ⟨a, rfl, ha1, ha2⟩ := cI_of v1
  have mk := mxK_b (T := T) (by omega) (by omega)
  have len := cs_len (T := T) 5
  have l2 : (csN T 5).length ≤ 1925 := by omega
  unfold f_law_22 f_L_cases
  refine hp_step (fc := f_X11_cases (cI a) D) (fm := fun D => f_X12_cases (cI a) D) (P := lawP) (C := rel T K L B) (csW T a) (fun D x h => h) ?_ (fun D H => ?_)
  · unfold f_X11_cases J_X11_cases_10
    by_cases x0 : a < -1
    · have w : csW T a = none := by unfold csW; rw [if_pos x0]
      rw [w]
      simp (disch := omega) only [e_bi, e_bind, e_let, e_tr, e_tl, cLm1, cLm2, cL0, cL1, cL2, cL3, cL4, cL5, cL6, cL7, cL8, cL9, cL10, cL11, cL12, cL13, cL14, cL15, cL16, cL17, cL18, cL19, cL20, cL21, cL22, cL23, cL24, cL25, cL29, cL30, cL31, cL32, cL36, cL48, cL50, cL51, cL52, cL64, cL99, cL100, cL700, cL1000, cL9999, cL10000, cI_add, cI_sub, cI_mul, cI_neg, cI_lt, cI_le, cI_eq, ne_eq, ifp, ifn, bI_p, bI_n, aZ_0, aZ_1, aZ_b, e_gdt, e_ifT, e_ifF, not_true_eq_false, not_false_eq_true, e_gd, need_0]
      exact ok_someI ⟨rfl, H⟩
    · simp (disch := omega) only [e_bi, e_bind, e_let, e_tr, e_tl, cLm1, cLm2, cL0, cL1, cL2, cL3, cL4, cL5, cL6, cL7, cL8, cL9, cL10, cL11, cL12, cL13, cL14, cL15, cL16, cL17, cL18, cL19, cL20, cL21, cL22, cL23, cL24, cL25, cL29, cL30, cL31, cL32, cL36, cL48, cL50, cL51, cL52, cL64, cL99, cL100, cL700, cL1000, cL9999, cL10000, cI_add, cI_sub, cI_mul, cI_neg, cI_lt, cI_le, cI_eq, ne_eq, ifp, ifn, bI_p, bI_n, aZ_0, aZ_1, aZ_b, e_gdt, e_ifT, e_ifF, not_true_eq_false, not_false_eq_true, e_gd, need_1]
      refine ok_bindI ((collect_ok hp hn hC hN).mono fun D1 q => ?_)
      have H1 : rel T K L B D1 := H.cls q.2
      obtain ⟨f1, f2⟩ := q.1
      by_cases x1 : a = -1
      · have w : csW T a = some (cI ((csN T 5).length : Int)) := by unfold csW; rw [if_neg x0, if_pos x1]
        rw [w]
        simp (disch := omega) only [e_bi, e_bind, e_let, e_tr, e_tl, cLm1, cLm2, cL0, cL1, cL2, cL3, cL4, cL5, cL6, cL7, cL8, cL9, cL10, cL11, cL12, cL13, cL14, cL15, cL16, cL17, cL18, cL19, cL20, cL21, cL22, cL23, cL24, cL25, cL29, cL30, cL31, cL32, cL36, cL48, cL50, cL51, cL52, cL64, cL99, cL100, cL700, cL1000, cL9999, cL10000, cI_add, cI_sub, cI_mul, cI_neg, cI_lt, cI_le, cI_eq, ne_eq, ifp, ifn, bI_p, bI_n, aZ_0, aZ_1, aZ_b, e_gdt, e_ifT, e_ifF, not_true_eq_false, not_false_eq_true, e_gd, f1]
        exact ok_someI ⟨rfl, H1⟩
      · by_cases x2 : ((csN T 5).length : Int) ≤ a
        · have w : csW T a = none := by unfold csW; rw [if_neg x0, if_neg x1, List.getElem?_eq_none (by omega)]; rfl
          rw [w]
          unfold J_X11_cases_49
          simp (disch := omega) only [e_bi, e_bind, e_let, e_tr, e_tl, cLm1, cLm2, cL0, cL1, cL2, cL3, cL4, cL5, cL6, cL7, cL8, cL9, cL10, cL11, cL12, cL13, cL14, cL15, cL16, cL17, cL18, cL19, cL20, cL21, cL22, cL23, cL24, cL25, cL29, cL30, cL31, cL32, cL36, cL48, cL50, cL51, cL52, cL64, cL99, cL100, cL700, cL1000, cL9999, cL10000, cI_add, cI_sub, cI_mul, cI_neg, cI_lt, cI_le, cI_eq, ne_eq, ifp, ifn, bI_p, bI_n, aZ_0, aZ_1, aZ_b, e_gdt, e_ifT, e_ifF, not_true_eq_false, not_false_eq_true, e_gd, f1, need_0]
          exact ok_someI ⟨rfl, H1⟩
        · have lt : a.toNat < (csN T 5).length := by omega
          have g := List.getElem?_eq_getElem lt
          generalize (csN T 5)[a.toNat] = q at g
          have mem : q ∈ csN T 5 := List.mem_of_getElem? g
          have mm := cs_mem 5 mem
          have w : csW T a = some (cI (1000 * (q.1 : Int) + (q.2 : Int))) := by unfold csW; rw [if_neg x0, if_neg x1, g]; rfl
          rw [w]
          have ea : ((a.toNat : Nat) : Int) = a := by omega
          have k := numOf_eq (D := D1) (a := a.toNat) hp H1.2.2.1 (by omega) (f2 _ _ g) mm.1 mm.2
          rw [ea] at k
          unfold J_X11_cases_49
          simp (disch := omega) only [e_bi, e_bind, e_let, e_tr, e_tl, cLm1, cLm2, cL0, cL1, cL2, cL3, cL4, cL5, cL6, cL7, cL8, cL9, cL10, cL11, cL12, cL13, cL14, cL15, cL16, cL17, cL18, cL19, cL20, cL21, cL22, cL23, cL24, cL25, cL29, cL30, cL31, cL32, cL36, cL48, cL50, cL51, cL52, cL64, cL99, cL100, cL700, cL1000, cL9999, cL10000, cI_add, cI_sub, cI_mul, cI_neg, cI_lt, cI_le, cI_eq, ne_eq, ifp, ifn, bI_p, bI_n, aZ_0, aZ_1, aZ_b, e_gdt, e_ifT, e_ifF, not_true_eq_false, not_false_eq_true, e_gd, f1, need_1, k]
          exact ok_someI ⟨rfl, H1⟩
  · have H0 := H.code (x := cI 0)
    have hM0 := H0.2.2.2.2.1
    have hMS := MS.of hM0 H0.2.2.2.2.2.1
    have hR0 := H0.2.2.2.2.2.1
    have hn2 := hn.1
    have hO : noS (pI D 88 2 (cI 0)) T := ⟨hR0.2.2.2.2 2 (by omega), fun i hi => ⟨hR0.2.2.1 0 i (by omega) (by omega), hR0.2.2.1 1 i (by omega) (by omega), hR0.2.2.1 2 i (by omega) (by omega), hR0.2.2.1 3 i (by omega) (by omega)⟩⟩
    unfold f_X12_cases
    rw [e_let]
    refine ok_bindI ((tellCases_ok hp hn hMS (hM0.1 4 (by omega)) hO).mono fun D1 q => ?_)
    obtain ⟨⟨f1, f2⟩, q2, q3⟩ := q
    have fr := frC_fr q3 (q2.2.2.2.2.2.1.trans hMS.2.2.2.2.2.1.symm)
    have H1 : rel T K L B D1 := H0.frP fr
    have c2 : gI D1 88 2 = cI 0 := (q3.1 _ _ (by omega) (by omega) (by omega) (by omega)).trans gI_eq
    have c3 : D1.2 = D.2 := q3.2
    by_cases x1 : a = -1
    · have w : csW T a = some (cI ((csN T 5).length : Int)) := by unfold csW; rw [if_neg (by omega), if_pos x1]
      rw [w]
      simp (disch := omega) only [e_bi, e_bind, e_let, e_tr, e_tl, cLm1, cLm2, cL0, cL1, cL2, cL3, cL4, cL5, cL6, cL7, cL8, cL9, cL10, cL11, cL12, cL13, cL14, cL15, cL16, cL17, cL18, cL19, cL20, cL21, cL22, cL23, cL24, cL25, cL29, cL30, cL31, cL32, cL36, cL48, cL50, cL51, cL52, cL64, cL99, cL100, cL700, cL1000, cL9999, cL10000, cI_add, cI_sub, cI_mul, cI_neg, cI_lt, cI_le, cI_eq, ne_eq, ifp, ifn, bI_p, bI_n, aZ_0, aZ_1, aZ_b, e_gdt, e_ifT, e_ifF, not_true_eq_false, not_false_eq_true, e_gd, f1]
      exact ok_someI ⟨⟨c2, rfl⟩, c3, T, K, L, B, H1⟩
    · by_cases x2 : 0 ≤ a ∧ a ≤ ((csN T 5).length : Int) - 1
      · have lt : a.toNat < (csN T 5).length := by omega
        have g := List.getElem?_eq_getElem lt
        generalize (csN T 5)[a.toNat] = q at g
        have w : csW T a = some (cI (1000 * (q.1 : Int) + (q.2 : Int))) := by unfold csW; rw [if_neg (by omega), if_neg x1, g]; rfl
        rw [w]
        have k := f2 _ _ g
        simp (disch := omega) only [e_bi, e_bind, e_let, e_tr, e_tl, cLm1, cLm2, cL0, cL1, cL2, cL3, cL4, cL5, cL6, cL7, cL8, cL9, cL10, cL11, cL12, cL13, cL14, cL15, cL16, cL17, cL18, cL19, cL20, cL21, cL22, cL23, cL24, cL25, cL29, cL30, cL31, cL32, cL36, cL48, cL50, cL51, cL52, cL64, cL99, cL100, cL700, cL1000, cL9999, cL10000, cI_add, cI_sub, cI_mul, cI_neg, cI_lt, cI_le, cI_eq, ne_eq, ifp, ifn, bI_p, bI_n, aZ_0, aZ_1, aZ_b, e_gdt, e_ifT, e_ifF, not_true_eq_false, not_false_eq_true, e_gd, f1, isIn_eq, cI_inT, cI_nat, k]
        exact ok_someI ⟨⟨c2, rfl⟩, c3, T, K, L, B, H1⟩
      · have w : csW T a = none := by
          unfold csW
          by_cases x0 : a < -1
          · rw [if_pos x0]
          · rw [if_neg x0, if_neg x1, List.getElem?_eq_none (by omega)]; rfl
        rw [w]
        simp (disch := omega) only [e_bi, e_bind, e_let, e_tr, e_tl, cLm1, cLm2, cL0, cL1, cL2, cL3, cL4, cL5, cL6, cL7, cL8, cL9, cL10, cL11, cL12, cL13, cL14, cL15, cL16, cL17, cL18, cL19, cL20, cL21, cL22, cL23, cL24, cL25, cL29, cL30, cL31, cL32, cL36, cL48, cL50, cL51, cL52, cL64, cL99, cL100, cL700, cL1000, cL9999, cL10000, cI_add, cI_sub, cI_mul, cI_neg, cI_lt, cI_le, cI_eq, ne_eq, ifp, ifn, bI_p, bI_n, aZ_0, aZ_1, aZ_b, e_gdt, e_ifT, e_ifF, not_true_eq_false, not_false_eq_true, e_gd, f1, isIn_eq, fail_eq]
        exact ok_someI ⟨gI_eq, c3, T, K, L, B, H1.code⟩
end CAS
