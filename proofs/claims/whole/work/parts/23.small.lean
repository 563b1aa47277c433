/-! count, plant, turn, nose, forget -/
section SML
theorem CP.two {D : aD} {T : aT} (h : CP D 2 T) : gI D 3 0 = cI (T 0 0) ∧ gI D 3 1 = cI (T 0 1) ∧ (∀ j : Nat, 2 ≤ j → j ≤ 9 → gI D 2 j = cI (T 0 j)) ∧
  (∀ w : Nat, w < 5 → gI D 14 w = cI (T 0 (10 + w))) ∧ (∀ f s : Nat, f < 7 → (s : Int) < T 0 2 → gI D (15 + s) f = cI (T (1 + f) s)) ∧
  (∀ p : Nat, (p : Int) < T 0 4 → gI D 8 p = cI (T 8 p)) ∧ (∀ p : Nat, (p : Int) < T 0 4 → gI D 9 p = cI (T 9 p)) ∧ (∀ p : Nat, (p : Int) < T 0 4 → gI D 10 p = cI (T 10 p)) ∧
  (∀ i : Nat, (i : Int) < T 0 5 → gI D 11 i = cI (T 11 i)) ∧ (∀ m : Nat, m < 36 → gI D 12 m = cI (T 12 m)) :=
  ⟨h.1, h.2.1, h.2.2.1, h.2.2.2.1, h.2.2.2.2.1, fun p hp => h.2.2.2.2.2.1 0 p (by omega) hp, fun p hp => h.2.2.2.2.2.1 1 p (by omega) hp, fun p hp => h.2.2.2.2.2.1 2 p (by omega) hp, h.2.2.2.2.2.2.1, h.2.2.2.2.2.2.2.1⟩
theorem CNow.two {D : aD} {T : aT} (h : CNow D T) : (∀ p : Nat, (p : Int) < T 0 4 → gI D 41 p = cI (T 13 p)) ∧ (∀ i : Nat, i < 5 → gI D 42 i = cI (T 14 i)) ∧ (∀ i : Nat, i < 12 → gI D 43 i = cI (T 16 i)) ∧ (∀ i : Nat, i < 12 → gI D 44 i = cI (T 17 i)) ∧ (∀ i : Nat, i < 12 → gI D 45 i = cI (T 18 i)) ∧ (∀ i : Nat, i < 12 → gI D 46 i = cI (T 19 i)) ∧ (∀ i : Nat, i < 3 → gI D 47 i = cI (T 20 i)) ∧ gI D 40 2 = cI (T 15 0) ∧ gI D 40 3 = cI (T 15 1) ∧ gI D 40 4 = cI (T 15 2) :=
  ⟨h.1, h.2.1, fun p hp => h.2.2.1 0 p (by omega) hp, fun p hp => h.2.2.1 1 p (by omega) hp, fun p hp => h.2.2.1 2 p (by omega) hp, fun p hp => h.2.2.1 3 p (by omega) hp, h.2.2.2.1, h.2.2.2.2 0 (by omega), h.2.2.2.2 1 (by omega), h.2.2.2.2 2 (by omega)⟩
theorem MNow.two {D : aD} {T : aT} (h : MNow D T) : (∀ p : Nat, (p : Int) < T 0 4 → gI D 106 p = cI (T 13 p)) ∧ (∀ i : Nat, i < 5 → gI D 107 i = cI (T 14 i)) ∧ (∀ i : Nat, i < 12 → gI D 118 i = cI (T 16 i)) ∧ (∀ i : Nat, i < 12 → gI D 119 i = cI (T 17 i)) ∧ (∀ i : Nat, i < 12 → gI D 120 i = cI (T 18 i)) ∧ (∀ i : Nat, i < 12 → gI D 121 i = cI (T 19 i)) ∧ (∀ i : Nat, i < 3 → gI D 104 i = cI (T 20 i)) ∧ gI D 88 31 = cI (T 15 0) ∧ gI D 88 32 = cI (T 15 1) ∧ gI D 88 33 = cI (T 15 2) :=
  ⟨h.1, h.2.1, fun p hp => h.2.2.1 0 p (by omega) hp, fun p hp => h.2.2.1 1 p (by omega) hp, fun p hp => h.2.2.1 2 p (by omega) hp, fun p hp => h.2.2.1 3 p (by omega) hp, h.2.2.2.1, h.2.2.2.2 0 (by omega), h.2.2.2.2 1 (by omega), h.2.2.2.2 2 (by omega)⟩
theorem MT.two {D : aD} {T : aT} (h : MT D T) : (∀ j : Nat, j < 15 → gI D 91 j = cI (T 0 j)) ∧ (∀ s : Nat, (s : Int) < T 0 2 → gI D 92 s = cI (T 1 s)) ∧ (∀ s : Nat, (s : Int) < T 0 2 → gI D 93 s = cI (T 2 s)) ∧ (∀ s : Nat, (s : Int) < T 0 2 → gI D 94 s = cI (T 3 s)) ∧ (∀ s : Nat, (s : Int) < T 0 2 → gI D 95 s = cI (T 4 s)) ∧ (∀ s : Nat, (s : Int) < T 0 2 → gI D 96 s = cI (T 5 s)) ∧ (∀ s : Nat, (s : Int) < T 0 2 → gI D 97 s = cI (T 6 s)) ∧ (∀ s : Nat, (s : Int) < T 0 2 → gI D 98 s = cI (T 7 s)) ∧
  (∀ p : Nat, (p : Int) < T 0 4 → gI D 99 p = cI (T 8 p)) ∧ (∀ p : Nat, (p : Int) < T 0 4 → gI D 100 p = cI (T 9 p)) ∧ (∀ p : Nat, (p : Int) < T 0 4 → gI D 101 p = cI (T 10 p)) ∧ (∀ i : Nat, (i : Int) < T 0 5 → gI D 102 i = cI (T 11 i)) ∧ (∀ m : Nat, m < 36 → gI D 103 m = cI (T 12 m)) ∧ gI D 88 30 = cI (T 0 4) :=
  ⟨h.1, fun p hp => h.2.1 0 p (by omega) hp, fun p hp => h.2.1 1 p (by omega) hp, fun p hp => h.2.1 2 p (by omega) hp, fun p hp => h.2.1 3 p (by omega) hp, fun p hp => h.2.1 4 p (by omega) hp, fun p hp => h.2.1 5 p (by omega) hp, fun p hp => h.2.1 6 p (by omega) hp, fun p hp => h.2.2.1 0 p (by omega) hp, fun p hp => h.2.2.1 1 p (by omega) hp, fun p hp => h.2.2.1 2 p (by omega) hp, h.2.2.2.1, h.2.2.2.2.1, h.2.2.2.2.2⟩
theorem isPlant_eq {D : aD} {T : aT} {a : Int} (hp : TOKp T) (hM : MT D T) (h1 : -2147483648 ≤ a) (h2 : a < 2147483648) : f_X12_isPlant (cI a) D = some (cI (bI (0 ≤ a ∧ a < T 0 4)), D) := by
  have hq := hp.1
  have hm := (MT.two hM).1
  unfold f_X12_isPlant
  simp (disch := omega) only [e_bi, e_bind, e_let, e_tr, e_tl, cLm1, cLm2, cL0, cL1, cL2, cL3, cL4, cL5, cL6, cL7, cL8, cL9, cL10, cL11, cL12, cL13, cL14, cL15, cL16, cL17, cL18, cL19, cL20, cL21, cL22, cL23, cL24, cL25, cL29, cL30, cL31, cL32, cL36, cL48, cL50, cL51, cL52, cL64, cL99, cL100, cL700, cL1000, cL9999, cL10000, cI_add, cI_sub, cI_mul, cI_neg, cI_lt, cI_le, cI_eq, ne_eq, ifp, ifn, bI_p, bI_n, aZ_0, aZ_1, aZ_b, e_gdt, e_ifT, e_ifF, not_true_eq_false, not_false_eq_true, e_gd, cX0, cX1, cX2, cX3, cX4, cX5, cX6, cX7, cX8, cX9, cX10, cX11, cX12, cX13, cX14, cX15, cX16, cX17, cX18, cX19, cX20, cX21, cX22, cX23, cX24, cX25, cX29, cX30, cX31, cX32, cX36, Int.reduceToNat, cI_inT, hm, isIn_eq]
  have e : (0 ≤ a ∧ a ≤ T 0 4 - 1) = (0 ≤ a ∧ a < T 0 4) := propext (by omega)
  by_cases c : 0 ≤ a ∧ a < T 0 4
  · rw [bI_p c, bI_p (by omega)]
  · rw [bI_n c, bI_n (by omega)]
theorem isSort_eq {D : aD} {T : aT} {a : Int} (hp : TOKp T) (hM : MT D T) (h1 : -2147483648 ≤ a) (h2 : a < 2147483648) : f_X12_isSort (cI a) D = some (cI (bI (0 ≤ a ∧ a < T 0 2)), D) := by
  have hq := hp.1
  have hm := (MT.two hM).1
  unfold f_X12_isSort
  simp (disch := omega) only [e_bi, e_bind, e_let, e_tr, e_tl, cLm1, cLm2, cL0, cL1, cL2, cL3, cL4, cL5, cL6, cL7, cL8, cL9, cL10, cL11, cL12, cL13, cL14, cL15, cL16, cL17, cL18, cL19, cL20, cL21, cL22, cL23, cL24, cL25, cL29, cL30, cL31, cL32, cL36, cL48, cL50, cL51, cL52, cL64, cL99, cL100, cL700, cL1000, cL9999, cL10000, cI_add, cI_sub, cI_mul, cI_neg, cI_lt, cI_le, cI_eq, ne_eq, ifp, ifn, bI_p, bI_n, aZ_0, aZ_1, aZ_b, e_gdt, e_ifT, e_ifF, not_true_eq_false, not_false_eq_true, e_gd, cX0, cX1, cX2, cX3, cX4, cX5, cX6, cX7, cX8, cX9, cX10, cX11, cX12, cX13, cX14, cX15, cX16, cX17, cX18, cX19, cX20, cX21, cX22, cX23, cX24, cX25, cX29, cX30, cX31, cX32, cX36, Int.reduceToNat, cI_inT, hm, isIn_eq]
  by_cases c : 0 ≤ a ∧ a < T 0 2
  · rw [bI_p c, bI_p (by omega)]
  · rw [bI_n c, bI_n (by omega)]
theorem need_1 {D : aD} : f_X11_need (cI 1) D = some (.inr (cI 0), D) := by unfold f_X11_need; simp (disch := omega) only [e_bi, e_bind, e_let, e_tr, e_tl, cLm1, cLm2, cL0, cL1, cL2, cL3, cL4, cL5, cL6, cL7, cL8, cL9, cL10, cL11, cL12, cL13, cL14, cL15, cL16, cL17, cL18, cL19, cL20, cL21, cL22, cL23, cL24, cL25, cL29, cL30, cL31, cL32, cL36, cL48, cL50, cL51, cL52, cL64, cL99, cL100, cL700, cL1000, cL9999, cL10000, cI_add, cI_sub, cI_mul, cI_neg, cI_lt, cI_le, cI_eq, ne_eq, ifp, ifn, bI_p, bI_n, aZ_0, aZ_1, aZ_b, e_gdt, e_ifT, e_ifF, not_true_eq_false, not_false_eq_true, e_gd]
theorem need_0 {D : aD} : f_X11_need (cI 0) D = some (.inl "java/util/NoSuchElementException", D) := by unfold f_X11_need; simp (disch := omega) only [e_bi, e_bind, e_let, e_tr, e_tl, cLm1, cLm2, cL0, cL1, cL2, cL3, cL4, cL5, cL6, cL7, cL8, cL9, cL10, cL11, cL12, cL13, cL14, cL15, cL16, cL17, cL18, cL19, cL20, cL21, cL22, cL23, cL24, cL25, cL29, cL30, cL31, cL32, cL36, cL48, cL50, cL51, cL52, cL64, cL99, cL100, cL700, cL1000, cL9999, cL10000, cI_add, cI_sub, cI_mul, cI_neg, cI_lt, cI_le, cI_eq, ne_eq, ifp, ifn, bI_p, bI_n, aZ_0, aZ_1, aZ_b, e_gdt, e_ifT, e_ifF, not_true_eq_false, not_false_eq_true, e_gd]
theorem fail_eq {D : aD} {x : Int32} : f_X12_fail x D = some (cI 0, pI D 88 2 x) := rfl
def countW (T : aT) (L a : Int) : Option Int32 := if 0 ≤ a ∧ a ≤ 9 then some (cI (T 0 a.toNat)) else if 10 ≤ a ∧ a ≤ 12 then some (cI (T 15 (a - 10).toNat)) else if a = 13 then some (cI L) else if 14 ≤ a ∧ a ≤ 16 then some (cI (T 20 (a - 14).toNat)) else if 20 ≤ a ∧ a ≤ 24 then some (cI (T 0 (a - 10).toNat)) else none
theorem cnt_split {a : Int} (h1 : 0 ≤ a) (h2 : a ≤ 16) : a = 0 ∨ a = 1 ∨ a = 2 ∨ a = 3 ∨ a = 4 ∨ a = 5 ∨ a = 6 ∨ a = 7 ∨ a = 8 ∨ a = 9 ∨ a = 10 ∨ a = 11 ∨ a = 12 ∨ a = 13 ∨ a = 14 ∨ a = 15 ∨ a = 16 := by omega
theorem c_count {D : aD} {T K : aT} {L a : Int} {B : Nat → Int} (H : rel T K L B D) (h1 : -2147483648 ≤ a) (h2 : a < 2147483648) : f_X11_count (cI a) D = some (wX "java/util/NoSuchElementException" (countW T L a), D) := by
  have ⟨hp, hn, hC, hN, _, _, _, hL, _⟩ := H
  have hq := hp.1
  obtain ⟨q1, q2, q3, q4, -⟩ := CP.two hC
  obtain ⟨-, -, -, -, -, -, r1, r2, r3, r4⟩ := CNow.two hN
  have l1 := hL.1
  unfold f_X11_count J_X11_count_26 J_X11_count_22 J_X11_count_27
  by_cases c1 : 0 ≤ a ∧ a ≤ 16
  · rcases cnt_split c1.1 c1.2 with rfl | rfl | rfl | rfl | rfl | rfl | rfl | rfl | rfl | rfl | rfl | rfl | rfl | rfl | rfl | rfl | rfl <;>
    simp (disch := omega) only [e_bi, e_bind, e_let, e_tr, e_tl, cLm1, cLm2, cL0, cL1, cL2, cL3, cL4, cL5, cL6, cL7, cL8, cL9, cL10, cL11, cL12, cL13, cL14, cL15, cL16, cL17, cL18, cL19, cL20, cL21, cL22, cL23, cL24, cL25, cL29, cL30, cL31, cL32, cL36, cL48, cL50, cL51, cL52, cL64, cL99, cL100, cL700, cL1000, cL9999, cL10000, cI_add, cI_sub, cI_mul, cI_neg, cI_lt, cI_le, cI_eq, ne_eq, ifp, ifn, bI_p, bI_n, aZ_0, aZ_1, aZ_b, e_gdt, e_ifT, e_ifF, not_true_eq_false, not_false_eq_true, e_gd, cX0, cX1, cX2, cX3, cX4, cX5, cX6, cX7, cX8, cX9, cX10, cX11, cX12, cX13, cX14, cX15, cX16, cX17, cX18, cX19, cX20, cX21, cX22, cX23, cX24, cX25, cX29, cX30, cX31, cX32, cX36, Int.reduceToNat, cI_inT, need_1, need_0, q1, q2, q3, r1, r2, r3, r4, l1, countW, wX, Int.reduceSub] <;> rfl
  · by_cases c2 : 20 ≤ a ∧ a ≤ 24
    · simp (disch := omega) only [e_bi, e_bind, e_let, e_tr, e_tl, cLm1, cLm2, cL0, cL1, cL2, cL3, cL4, cL5, cL6, cL7, cL8, cL9, cL10, cL11, cL12, cL13, cL14, cL15, cL16, cL17, cL18, cL19, cL20, cL21, cL22, cL23, cL24, cL25, cL29, cL30, cL31, cL32, cL36, cL48, cL50, cL51, cL52, cL64, cL99, cL100, cL700, cL1000, cL9999, cL10000, cI_add, cI_sub, cI_mul, cI_neg, cI_lt, cI_le, cI_eq, ne_eq, ifp, ifn, bI_p, bI_n, aZ_0, aZ_1, aZ_b, e_gdt, e_ifT, e_ifF, not_true_eq_false, not_false_eq_true, e_gd, cX0, cX1, cX2, cX3, cX4, cX5, cX6, cX7, cX8, cX9, cX10, cX11, cX12, cX13, cX14, cX15, cX16, cX17, cX18, cX19, cX20, cX21, cX22, cX23, cX24, cX25, cX29, cX30, cX31, cX32, cX36, Int.reduceToNat, cI_inT, cI_nat, need_1, need_0, q4, countW, wX]
      rw [show 10 + (a - 20).toNat = (a - 10).toNat by omega]
    · have e : countW T L a = none := by
        unfold countW
        simp (disch := omega) only [ifn]
      rw [e]
      by_cases c3 : a < 0
      · simp (disch := omega) only [e_bi, e_bind, e_let, e_tr, e_tl, cLm1, cLm2, cL0, cL1, cL2, cL3, cL4, cL5, cL6, cL7, cL8, cL9, cL10, cL11, cL12, cL13, cL14, cL15, cL16, cL17, cL18, cL19, cL20, cL21, cL22, cL23, cL24, cL25, cL29, cL30, cL31, cL32, cL36, cL48, cL50, cL51, cL52, cL64, cL99, cL100, cL700, cL1000, cL9999, cL10000, cI_add, cI_sub, cI_mul, cI_neg, cI_lt, cI_le, cI_eq, ne_eq, ifp, ifn, bI_p, bI_n, aZ_0, aZ_1, aZ_b, e_gdt, e_ifT, e_ifF, not_true_eq_false, not_false_eq_true, e_gd, cX0, cX1, cX2, cX3, cX4, cX5, cX6, cX7, cX8, cX9, cX10, cX11, cX12, cX13, cX14, cX15, cX16, cX17, cX18, cX19, cX20, cX21, cX22, cX23, cX24, cX25, cX29, cX30, cX31, cX32, cX36, Int.reduceToNat, cI_inT, need_1, need_0, wX]
      · by_cases c4 : a < 20
        · simp (disch := omega) only [e_bi, e_bind, e_let, e_tr, e_tl, cLm1, cLm2, cL0, cL1, cL2, cL3, cL4, cL5, cL6, cL7, cL8, cL9, cL10, cL11, cL12, cL13, cL14, cL15, cL16, cL17, cL18, cL19, cL20, cL21, cL22, cL23, cL24, cL25, cL29, cL30, cL31, cL32, cL36, cL48, cL50, cL51, cL52, cL64, cL99, cL100, cL700, cL1000, cL9999, cL10000, cI_add, cI_sub, cI_mul, cI_neg, cI_lt, cI_le, cI_eq, ne_eq, ifp, ifn, bI_p, bI_n, aZ_0, aZ_1, aZ_b, e_gdt, e_ifT, e_ifF, not_true_eq_false, not_false_eq_true, e_gd, cX0, cX1, cX2, cX3, cX4, cX5, cX6, cX7, cX8, cX9, cX10, cX11, cX12, cX13, cX14, cX15, cX16, cX17, cX18, cX19, cX20, cX21, cX22, cX23, cX24, cX25, cX29, cX30, cX31, cX32, cX36, Int.reduceToNat, cI_inT, need_1, need_0, wX]
        · simp (disch := omega) only [e_bi, e_bind, e_let, e_tr, e_tl, cLm1, cLm2, cL0, cL1, cL2, cL3, cL4, cL5, cL6, cL7, cL8, cL9, cL10, cL11, cL12, cL13, cL14, cL15, cL16, cL17, cL18, cL19, cL20, cL21, cL22, cL23, cL24, cL25, cL29, cL30, cL31, cL32, cL36, cL48, cL50, cL51, cL52, cL64, cL99, cL100, cL700, cL1000, cL9999, cL10000, cI_add, cI_sub, cI_mul, cI_neg, cI_lt, cI_le, cI_eq, ne_eq, ifp, ifn, bI_p, bI_n, aZ_0, aZ_1, aZ_b, e_gdt, e_ifT, e_ifF, not_true_eq_false, not_false_eq_true, e_gd, cX0, cX1, cX2, cX3, cX4, cX5, cX6, cX7, cX8, cX9, cX10, cX11, cX12, cX13, cX14, cX15, cX16, cX17, cX18, cX19, cX20, cX21, cX22, cX23, cX24, cX25, cX29, cX30, cX31, cX32, cX36, Int.reduceToNat, cI_inT, need_1, need_0, wX]
def sI (D1 D2 : aD) : Prop := ∀ k j : Nat, gI D1 k j = gI D2 k j
theorem sI.rf {D : aD} : sI D D := fun _ _ => rfl
theorem m_count {D : aD} {T K : aT} {L a : Int} {B : Nat → Int} (H : rel T K L B D) (h1 : -2147483648 ≤ a) (h2 : a < 2147483648) : Ok (f_X12_count (cI a) D) (fun r => wM (countW T L a) (gI r.2 88 2) r.1 ∧ r.2.2 = D.2 ∧ rel T K L B r.2) := by
  have ⟨hp, hn, _, _, hM, hN, _, hL, _⟩ := H
  have hq := hp.1
  have q1 := (MT.two hM).1
  obtain ⟨-, -, -, -, -, -, r1, r2, r3, r4⟩ := MNow.two hN
  have l1 := hL.2.1
  have fr1 : ∀ x : Int32, rel T K L B (pI D 88 2 x) := fun x => H.fr (fun k j _ b => fr_code k j b)
  unfold f_X12_count
  by_cases c1 : 0 ≤ a ∧ a ≤ 9
  · simp (disch := omega) only [e_bi, e_bind, e_let, e_tr, e_tl, cLm1, cLm2, cL0, cL1, cL2, cL3, cL4, cL5, cL6, cL7, cL8, cL9, cL10, cL11, cL12, cL13, cL14, cL15, cL16, cL17, cL18, cL19, cL20, cL21, cL22, cL23, cL24, cL25, cL29, cL30, cL31, cL32, cL36, cL48, cL50, cL51, cL52, cL64, cL99, cL100, cL700, cL1000, cL9999, cL10000, cI_add, cI_sub, cI_mul, cI_neg, cI_lt, cI_le, cI_eq, ne_eq, ifp, ifn, bI_p, bI_n, aZ_0, aZ_1, aZ_b, e_gdt, e_ifT, e_ifF, not_true_eq_false, not_false_eq_true, e_gd, cX0, cX1, cX2, cX3, cX4, cX5, cX6, cX7, cX8, cX9, cX10, cX11, cX12, cX13, cX14, cX15, cX16, cX17, cX18, cX19, cX20, cX21, cX22, cX23, cX24, cX25, cX29, cX30, cX31, cX32, cX36, Int.reduceToNat, cI_inT, cI_nat, isIn_eq, gI_fr, q1, r1, r2, r3, r4, l1, countW, fail_eq, ok_some]
    exact ⟨⟨gI_eq, rfl⟩, rfl, fr1 _⟩
  · by_cases c2 : 20 ≤ a ∧ a ≤ 24
    · simp (disch := omega) only [e_bi, e_bind, e_let, e_tr, e_tl, cLm1, cLm2, cL0, cL1, cL2, cL3, cL4, cL5, cL6, cL7, cL8, cL9, cL10, cL11, cL12, cL13, cL14, cL15, cL16, cL17, cL18, cL19, cL20, cL21, cL22, cL23, cL24, cL25, cL29, cL30, cL31, cL32, cL36, cL48, cL50, cL51, cL52, cL64, cL99, cL100, cL700, cL1000, cL9999, cL10000, cI_add, cI_sub, cI_mul, cI_neg, cI_lt, cI_le, cI_eq, ne_eq, ifp, ifn, bI_p, bI_n, aZ_0, aZ_1, aZ_b, e_gdt, e_ifT, e_ifF, not_true_eq_false, not_false_eq_true, e_gd, cX0, cX1, cX2, cX3, cX4, cX5, cX6, cX7, cX8, cX9, cX10, cX11, cX12, cX13, cX14, cX15, cX16, cX17, cX18, cX19, cX20, cX21, cX22, cX23, cX24, cX25, cX29, cX30, cX31, cX32, cX36, Int.reduceToNat, cI_inT, cI_nat, isIn_eq, gI_fr, q1, r1, r2, r3, r4, l1, countW, fail_eq, ok_some]
      exact ⟨⟨gI_eq, rfl⟩, rfl, fr1 _⟩
    · by_cases c3 : 10 ≤ a ∧ a ≤ 16
      · have e : a = 10 ∨ a = 11 ∨ a = 12 ∨ a = 13 ∨ a = 14 ∨ a = 15 ∨ a = 16 := by omega
        rcases e with rfl | rfl | rfl | rfl | rfl | rfl | rfl <;>
        (simp (disch := omega) only [e_bi, e_bind, e_let, e_tr, e_tl, cLm1, cLm2, cL0, cL1, cL2, cL3, cL4, cL5, cL6, cL7, cL8, cL9, cL10, cL11, cL12, cL13, cL14, cL15, cL16, cL17, cL18, cL19, cL20, cL21, cL22, cL23, cL24, cL25, cL29, cL30, cL31, cL32, cL36, cL48, cL50, cL51, cL52, cL64, cL99, cL100, cL700, cL1000, cL9999, cL10000, cI_add, cI_sub, cI_mul, cI_neg, cI_lt, cI_le, cI_eq, ne_eq, ifp, ifn, bI_p, bI_n, aZ_0, aZ_1, aZ_b, e_gdt, e_ifT, e_ifF, not_true_eq_false, not_false_eq_true, e_gd, cX0, cX1, cX2, cX3, cX4, cX5, cX6, cX7, cX8, cX9, cX10, cX11, cX12, cX13, cX14, cX15, cX16, cX17, cX18, cX19, cX20, cX21, cX22, cX23, cX24, cX25, cX29, cX30, cX31, cX32, cX36, Int.reduceToNat, cI_inT, cI_nat, isIn_eq, gI_fr, q1, r1, r2, r3, r4, l1, countW, fail_eq, ok_some, Int.reduceSub]
         exact ⟨⟨gI_eq, rfl⟩, rfl, fr1 _⟩)
      · have e : countW T L a = none := by
          unfold countW
          simp (disch := omega) only [ifn]
        rw [e]
        simp (disch := omega) only [e_bi, e_bind, e_let, e_tr, e_tl, cLm1, cLm2, cL0, cL1, cL2, cL3, cL4, cL5, cL6, cL7, cL8, cL9, cL10, cL11, cL12, cL13, cL14, cL15, cL16, cL17, cL18, cL19, cL20, cL21, cL22, cL23, cL24, cL25, cL29, cL30, cL31, cL32, cL36, cL48, cL50, cL51, cL52, cL64, cL99, cL100, cL700, cL1000, cL9999, cL10000, cI_add, cI_sub, cI_mul, cI_neg, cI_lt, cI_le, cI_eq, ne_eq, ifp, ifn, bI_p, bI_n, aZ_0, aZ_1, aZ_b, e_gdt, e_ifT, e_ifF, not_true_eq_false, not_false_eq_true, e_gd, cX0, cX1, cX2, cX3, cX4, cX5, cX6, cX7, cX8, cX9, cX10, cX11, cX12, cX13, cX14, cX15, cX16, cX17, cX18, cX19, cX20, cX21, cX22, cX23, cX24, cX25, cX29, cX30, cX31, cX32, cX36, Int.reduceToNat, cI_inT, cI_nat, isIn_eq, gI_fr, fail_eq, ok_some]
        exact ⟨gI_eq, rfl, H.fr (fun k j _ b => (fr_code k j b).trans (fr_code k j b))⟩
theorem step_3 {D : aD} {v1 v2 v3 v4 v5 : Int32} (h : lawP D) : Ok2 (f_law_3 v1 v2 v3 v4 v5 D) (fun r D => r = 1 ∧ lawP D) := by
  obtain ⟨T, K, L, B, H⟩ := h
  obtain ⟨a, rfl, ha1, ha2⟩ := cI_of v1
  unfold f_law_3 f_L_count
  refine hp_step (fc := f_X11_count (cI a) D) (fm := fun D => f_X12_count (cI a) D) (P := lawP) (C := rel T K L B) (countW T L a) (fun D x h => h) ?_ (fun D h => (m_count h ha1 ha2).mono (fun r q => ⟨q.1, q.2.1, T, K, L, B, q.2.2⟩))
  rw [c_count H ha1 ha2]
  exact ok_someI ⟨rfl, H⟩
def plantW (T : aT) (a b : Int) : Option Int32 := if 0 ≤ a ∧ a < T 0 4 ∧ 0 ≤ b ∧ b < 4 then (if b = 0 then some (cI (T 8 a.toNat)) else if b = 1 then some (cI (T 9 a.toNat)) else if b = 2 then some (cI (T 10 a.toNat)) else some (cI (T 13 a.toNat))) else none
theorem c_plant {D : aD} {T K : aT} {L a b : Int} {B : Nat → Int} (H : rel T K L B D) (h1 : -2147483648 ≤ a) (h2 : a < 2147483648) (h3 : -2147483648 ≤ b) (h4 : b < 2147483648) : f_X11_plant (cI a) (cI b) D = some (wX "java/util/NoSuchElementException" (plantW T a b), D) := by
  have ⟨hp, hn, hC, hN, _⟩ := H
  have hq := hp.1
  obtain ⟨q1, q2, q3, q4, q5, q6, q7, q8, -⟩ := CP.two hC
  have r1 := (CNow.two hN).1
  unfold f_X11_plant J_X11_plant_26 J_X11_plant_27
  by_cases c1 : 0 ≤ a ∧ a < T 0 4
  · by_cases c2 : 0 ≤ b ∧ b < 4
    · have e : b = 0 ∨ b = 1 ∨ b = 2 ∨ b = 3 := by omega
      rcases e with rfl | rfl | rfl | rfl <;>
      simp (disch := omega) only [e_bi, e_bind, e_let, e_tr, e_tl, cLm1, cLm2, cL0, cL1, cL2, cL3, cL4, cL5, cL6, cL7, cL8, cL9, cL10, cL11, cL12, cL13, cL14, cL15, cL16, cL17, cL18, cL19, cL20, cL21, cL22, cL23, cL24, cL25, cL29, cL30, cL31, cL32, cL36, cL48, cL50, cL51, cL52, cL64, cL99, cL100, cL700, cL1000, cL9999, cL10000, cI_add, cI_sub, cI_mul, cI_neg, cI_lt, cI_le, cI_eq, ne_eq, ifp, ifn, bI_p, bI_n, aZ_0, aZ_1, aZ_b, e_gdt, e_ifT, e_ifF, not_true_eq_false, not_false_eq_true, e_gd, cX0, cX1, cX2, cX3, cX4, cX5, cX6, cX7, cX8, cX9, cX10, cX11, cX12, cX13, cX14, cX15, cX16, cX17, cX18, cX19, cX20, cX21, cX22, cX23, cX24, cX25, cX29, cX30, cX31, cX32, cX36, Int.reduceToNat, q3, isBelow_eq, cI_inT, cI_nat, need_1, need_0, q6, q7, q8, r1, plantW, wX]
    · simp (disch := omega) only [e_bi, e_bind, e_let, e_tr, e_tl, cLm1, cLm2, cL0, cL1, cL2, cL3, cL4, cL5, cL6, cL7, cL8, cL9, cL10, cL11, cL12, cL13, cL14, cL15, cL16, cL17, cL18, cL19, cL20, cL21, cL22, cL23, cL24, cL25, cL29, cL30, cL31, cL32, cL36, cL48, cL50, cL51, cL52, cL64, cL99, cL100, cL700, cL1000, cL9999, cL10000, cI_add, cI_sub, cI_mul, cI_neg, cI_lt, cI_le, cI_eq, ne_eq, ifp, ifn, bI_p, bI_n, aZ_0, aZ_1, aZ_b, e_gdt, e_ifT, e_ifF, not_true_eq_false, not_false_eq_true, e_gd, cX0, cX1, cX2, cX3, cX4, cX5, cX6, cX7, cX8, cX9, cX10, cX11, cX12, cX13, cX14, cX15, cX16, cX17, cX18, cX19, cX20, cX21, cX22, cX23, cX24, cX25, cX29, cX30, cX31, cX32, cX36, Int.reduceToNat, q3, isBelow_eq, need_1, need_0, plantW, wX]
  · simp (disch := omega) only [e_bi, e_bind, e_let, e_tr, e_tl, cLm1, cLm2, cL0, cL1, cL2, cL3, cL4, cL5, cL6, cL7, cL8, cL9, cL10, cL11, cL12, cL13, cL14, cL15, cL16, cL17, cL18, cL19, cL20, cL21, cL22, cL23, cL24, cL25, cL29, cL30, cL31, cL32, cL36, cL48, cL50, cL51, cL52, cL64, cL99, cL100, cL700, cL1000, cL9999, cL10000, cI_add, cI_sub, cI_mul, cI_neg, cI_lt, cI_le, cI_eq, ne_eq, ifp, ifn, bI_p, bI_n, aZ_0, aZ_1, aZ_b, e_gdt, e_ifT, e_ifF, not_true_eq_false, not_false_eq_true, e_gd, cX0, cX1, cX2, cX3, cX4, cX5, cX6, cX7, cX8, cX9, cX10, cX11, cX12, cX13, cX14, cX15, cX16, cX17, cX18, cX19, cX20, cX21, cX22, cX23, cX24, cX25, cX29, cX30, cX31, cX32, cX36, Int.reduceToNat, q3, isBelow_eq, need_1, need_0, plantW, wX]
theorem m_plant {D : aD} {T K : aT} {L a b : Int} {B : Nat → Int} (H : rel T K L B D) (h1 : -2147483648 ≤ a) (h2 : a < 2147483648) (h3 : -2147483648 ≤ b) (h4 : b < 2147483648) : Ok (f_X12_plant (cI a) (cI b) D) (fun r => wM (plantW T a b) (gI r.2 88 2) r.1 ∧ r.2.2 = D.2 ∧ rel T K L B r.2) := by
  have fr1 : ∀ x : Int32, rel T K L B (pI D 88 2 x) := fun x => H.fr (fun k j _ b => fr_code k j b)
  have ⟨hp, hn, _, _, hM, hN, _⟩ := H
  have hM' := (fr1 (cI 0)).2.2.2.2.1
  have hq := hp.1
  obtain ⟨-, -, -, -, -, -, -, -, q8, q9, q10, -⟩ := MT.two hM
  have r1 := (MNow.two hN).1
  unfold f_X12_plant
  by_cases c1 : 0 ≤ a ∧ a < T 0 4
  · by_cases c2 : 0 ≤ b ∧ b < 4
    · have e : b = 0 ∨ b = 1 ∨ b = 2 ∨ b = 3 := by omega
      rcases e with rfl | rfl | rfl | rfl <;>
      (simp (disch := omega) only [e_bi, e_bind, e_let, e_tr, e_tl, cLm1, cLm2, cL0, cL1, cL2, cL3, cL4, cL5, cL6, cL7, cL8, cL9, cL10, cL11, cL12, cL13, cL14, cL15, cL16, cL17, cL18, cL19, cL20, cL21, cL22, cL23, cL24, cL25, cL29, cL30, cL31, cL32, cL36, cL48, cL50, cL51, cL52, cL64, cL99, cL100, cL700, cL1000, cL9999, cL10000, cI_add, cI_sub, cI_mul, cI_neg, cI_lt, cI_le, cI_eq, ne_eq, ifp, ifn, bI_p, bI_n, aZ_0, aZ_1, aZ_b, e_gdt, e_ifT, e_ifF, not_true_eq_false, not_false_eq_true, e_gd, cX0, cX1, cX2, cX3, cX4, cX5, cX6, cX7, cX8, cX9, cX10, cX11, cX12, cX13, cX14, cX15, cX16, cX17, cX18, cX19, cX20, cX21, cX22, cX23, cX24, cX25, cX29, cX30, cX31, cX32, cX36, Int.reduceToNat, cL0, isPlant_eq hp hM' h1 h2, cI_inT, cI_nat, gI_fr, q8, q9, q10, r1, plantW, ok_some]
       exact ⟨⟨gI_eq, rfl⟩, rfl, fr1 _⟩)
    · simp (disch := omega) only [e_bi, e_bind, e_let, e_tr, e_tl, cLm1, cLm2, cL0, cL1, cL2, cL3, cL4, cL5, cL6, cL7, cL8, cL9, cL10, cL11, cL12, cL13, cL14, cL15, cL16, cL17, cL18, cL19, cL20, cL21, cL22, cL23, cL24, cL25, cL29, cL30, cL31, cL32, cL36, cL48, cL50, cL51, cL52, cL64, cL99, cL100, cL700, cL1000, cL9999, cL10000, cI_add, cI_sub, cI_mul, cI_neg, cI_lt, cI_le, cI_eq, ne_eq, ifp, ifn, bI_p, bI_n, aZ_0, aZ_1, aZ_b, e_gdt, e_ifT, e_ifF, not_true_eq_false, not_false_eq_true, e_gd, cX0, cX1, cX2, cX3, cX4, cX5, cX6, cX7, cX8, cX9, cX10, cX11, cX12, cX13, cX14, cX15, cX16, cX17, cX18, cX19, cX20, cX21, cX22, cX23, cX24, cX25, cX29, cX30, cX31, cX32, cX36, Int.reduceToNat, isPlant_eq hp hM' h1 h2, fail_eq, plantW, ok_some]
      exact ⟨gI_eq, rfl, H.fr (fun k j _ b => (fr_code k j b).trans (fr_code k j b))⟩
  · simp (disch := omega) only [e_bi, e_bind, e_let, e_tr, e_tl, cLm1, cLm2, cL0, cL1, cL2, cL3, cL4, cL5, cL6, cL7, cL8, cL9, cL10, cL11, cL12, cL13, cL14, cL15, cL16, cL17, cL18, cL19, cL20, cL21, cL22, cL23, cL24, cL25, cL29, cL30, cL31, cL32, cL36, cL48, cL50, cL51, cL52, cL64, cL99, cL100, cL700, cL1000, cL9999, cL10000, cI_add, cI_sub, cI_mul, cI_neg, cI_lt, cI_le, cI_eq, ne_eq, ifp, ifn, bI_p, bI_n, aZ_0, aZ_1, aZ_b, e_gdt, e_ifT, e_ifF, not_true_eq_false, not_false_eq_true, e_gd, cX0, cX1, cX2, cX3, cX4, cX5, cX6, cX7, cX8, cX9, cX10, cX11, cX12, cX13, cX14, cX15, cX16, cX17, cX18, cX19, cX20, cX21, cX22, cX23, cX24, cX25, cX29, cX30, cX31, cX32, cX36, Int.reduceToNat, isPlant_eq hp hM' h1 h2, fail_eq, plantW, ok_some]
    exact ⟨gI_eq, rfl, H.fr (fun k j _ b => (fr_code k j b).trans (fr_code k j b))⟩
theorem step_4 {D : aD} {v1 v2 v3 v4 v5 : Int32} (h : lawP D) : Ok2 (f_law_4 v1 v2 v3 v4 v5 D) (fun r D => r = 1 ∧ lawP D) := by
  obtain ⟨T, K, L, B, H⟩ := h
  obtain ⟨a, rfl, ha1, ha2⟩ := cI_of v1
  obtain ⟨b, rfl, hb1, hb2⟩ := cI_of v2
  unfold f_law_4 f_L_plant
  refine hp_step (fc := f_X11_plant (cI a) (cI b) D) (fm := fun D => f_X12_plant (cI a) (cI b) D) (P := lawP) (C := rel T K L B) (plantW T a b) (fun D x h => h) ?_ (fun D h => (m_plant h ha1 ha2 hb1 hb2).mono (fun r q => ⟨q.1, q.2.1, T, K, L, B, q.2.2⟩))
  rw [c_plant H ha1 ha2 hb1 hb2]
  exact ok_someI ⟨rfl, H⟩
end SML
