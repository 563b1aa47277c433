/-! scents: one plant, one place -/
section SCN
def mxI (e : Int) : Int := if 0 < e then e else 0
def abI (e : Int) : Int := if 0 ≤ e then e else 0 - e
def alN (T : aT) (f t w : Int) : Int := if w = 1 then f / T 0 0 - t / T 0 0 else if w = 2 then t % T 0 0 - f % T 0 0 else if w = 3 then t / T 0 0 - f / T 0 0 else if w = 4 then f % T 0 0 - t % T 0 0 else 0
def stN (T : aT) (f t : Int) : Int := abI (t % T 0 0 - f % T 0 0) + abI (t / T 0 0 - f / T 0 0)
def onN (T : aT) (s week hour : Int) : Prop := T 2 s.toNat ≤ week ∧ week ≤ T 3 s.toNat ∧ T 4 s.toNat ≤ hour ∧ hour ≤ T 5 s.toNat
def rwN (T : aT) (s m f t w : Int) : Int := T 1 s.toNat * m - T 0 6 * stN T f t + T 0 7 * alN T f t w

def scN (T : aT) (s m f t week hour w : Int) : Int := @ite _ (onN T s week hour ∧ -(alN T f t w) ≤ T 0 8) (by unfold onN; infer_instance) (mxI (rwN T s m f t w)) 0
theorem mulB {a b A B : Int} (h1 : 0 ≤ a) (h2 : a ≤ A) (h3 : 0 ≤ b) (h4 : b ≤ B) : 0 ≤ a * b ∧ a * b ≤ A * B := ⟨Int.mul_nonneg h1 h3, Int.mul_le_mul h2 h4 h3 (by omega)⟩
theorem mulS {a b A B : Int} (h1 : 0 ≤ a) (h2 : a ≤ A) (h3 : -B ≤ b) (h4 : b ≤ B) : -(A * B) ≤ a * b ∧ a * b ≤ A * B := by
  by_cases c : 0 ≤ b
  · have h := mulB h1 h2 c h4
    omega
  · have h := mulB h1 h2 (show 0 ≤ -b by omega) (show -b ≤ B by omega)
    rw [Int.mul_neg] at h
    omega
theorem xy_b {T : aT} {c : Int} (hp : TOKp T) (h1 : 0 ≤ c) (h2 : c < T 0 0 * T 0 1) : 0 ≤ c % T 0 0 ∧ c % T 0 0 ≤ 7 ∧ 0 ≤ c / T 0 0 ∧ c / T 0 0 ≤ 7 := by
  have hq := hp.1
  have a1 := Int.emod_nonneg c (show T 0 0 ≠ 0 by omega)
  have a2 := Int.emod_lt_of_pos c (show 0 < T 0 0 by omega)
  have a3 := Int.ediv_nonneg h1 (show 0 ≤ T 0 0 by omega)
  have a4 : c / T 0 0 < T 0 1 := Int.ediv_lt_of_lt_mul (by omega) (by rw [Int.mul_comm]; exact h2)
  omega
theorem al_b {T : aT} {f t w : Int} (hp : TOKp T) (h1 : 0 ≤ f) (h2 : f < T 0 0 * T 0 1) (h3 : 0 ≤ t) (h4 : t < T 0 0 * T 0 1) : -7 ≤ alN T f t w ∧ alN T f t w ≤ 7 := by
  have a := xy_b hp h1 h2
  have b := xy_b hp h3 h4
  unfold alN
  split
  · omega
  · split
    · omega
    · split
      · omega
      · split <;> omega
theorem st_b {T : aT} {f t : Int} (hp : TOKp T) (h1 : 0 ≤ f) (h2 : f < T 0 0 * T 0 1) (h3 : 0 ≤ t) (h4 : t < T 0 0 * T 0 1) : 0 ≤ stN T f t ∧ stN T f t ≤ 14 := by
  have a := xy_b hp h1 h2
  have b := xy_b hp h3 h4
  unfold stN abI
  split <;> split <;> omega
theorem rw_b {T : aT} {s m f t w : Int} (hp : TOKp T) (hs1 : 0 ≤ s) (hs2 : s < T 0 2) (hm : m = 1 ∨ m = 3) (h1 : 0 ≤ f) (h2 : f < T 0 0 * T 0 1) (h3 : 0 ≤ t) (h4 : t < T 0 0 * T 0 1) : -400 ≤ rwN T s m f t w ∧ rwN T s m f t w ≤ 360 := by
  have hq := hp.1
  have hr := hp.2.2.1 s.toNat (by omega)
  have a := al_b (w := w) hp h1 h2 h3 h4
  have b := st_b hp h1 h2 h3 h4
  have c := mulB (show 0 ≤ T 0 6 by omega) (show T 0 6 ≤ 20 by omega) b.1 b.2
  have d := mulS (show 0 ≤ T 0 7 by omega) (show T 0 7 ≤ 9 by omega) a.1 a.2
  unfold rwN
  rcases hm with rfl | rfl <;> omega
theorem sc_b {T : aT} {s m f t week hour w : Int} (hp : TOKp T) (hs1 : 0 ≤ s) (hs2 : s < T 0 2) (hm : m = 1 ∨ m = 3) (h1 : 0 ≤ f) (h2 : f < T 0 0 * T 0 1) (h3 : 0 ≤ t) (h4 : t < T 0 0 * T 0 1) : 0 ≤ scN T s m f t week hour w ∧ scN T s m f t week hour w ≤ 360 := by
  have a := rw_b (w := w) hp hs1 hs2 hm h1 h2 h3 h4
  unfold scN mxI
  split
  · split <;> omega
  · omega
theorem cI_abs {e : Int} (h1 : -2147483648 ≤ e) (h2 : e < 2147483648) : (if 0 ≤ cI e then cI e else 0 - cI e) = cI (abI e) := by
  unfold abI
  by_cases c : 0 ≤ e
  · rw [if_pos (show (0 : Int32) ≤ cI e by show cI 0 ≤ cI e; rw [cI_le (by omega) (by omega) h1 h2]; exact c), if_pos c]
  · rw [if_neg (show ¬ ((0 : Int32) ≤ cI e) by show ¬ (cI 0 ≤ cI e); rw [cI_le (by omega) (by omega) h1 h2]; exact c), if_neg c]
    exact cI_sub 0 e
theorem cI_mx {e : Int} (h1 : -2147483648 ≤ e) (h2 : e < 2147483648) : (if 0 < cI e then cI e else 0) = cI (mxI e) := by
  unfold mxI
  by_cases c : 0 < e
  · rw [if_pos (show (0 : Int32) < cI e by show cI 0 < cI e; rw [cI_lt (by omega) (by omega) h1 h2]; exact c), if_pos c]
  · rw [if_neg (show ¬ ((0 : Int32) < cI e) by show ¬ (cI 0 < cI e); rw [cI_lt (by omega) (by omega) h1 h2]; exact c), if_neg c]
    rfl
theorem CP.grid {D : aD} {T : aT} (h : CP D 2 T) {c : Int} (h1 : 0 ≤ c) (h2 : c < T 0 0 * T 0 1) : gI D 4 c.toNat = cI (c % T 0 0) ∧ gI D 5 c.toNat = cI (c / T 0 0) := by
  have k := h.2.2.2.2.2.2.2.2.2.1 c.toNat (by omega)
  rw [Int.toNat_of_nonneg h1] at k
  exact k
theorem along_eq {D : aD} {T : aT} {f t w : Int} (hp : TOKp T) (hC : CP D 2 T) (h1 : 0 ≤ f) (h2 : f < T 0 0 * T 0 1) (h3 : 0 ≤ t) (h4 : t < T 0 0 * T 0 1) (h5 : 0 ≤ w) (h6 : w < 5) : f_X4_along (cI f) (cI t) (cI w) D = some (cI (alN T f t w), D) := by
  have hq := hp.1
  obtain ⟨f1, f2⟩ := CP.grid hC h1 h2
  obtain ⟨t1, t2⟩ := CP.grid hC h3 h4
  unfold f_X4_along alN
  have e : w = 0 ∨ w = 1 ∨ w = 2 ∨ w = 3 ∨ w = 4 := by omega
  rcases e with rfl | rfl | rfl | rfl | rfl <;>
  simp (disch := omega) only [e_bi, e_bind, e_let, e_tr, e_tl, cLm1, cLm2, cL0, cL1, cL2, cL3, cL4, cL5, cL6, cL7, cL8, cL9, cL10, cL11, cL12, cL13, cL14, cL15, cL16, cL17, cL18, cL19, cL20, cL21, cL22, cL23, cL24, cL25, cL29, cL30, cL31, cL32, cL36, cL48, cL50, cL51, cL52, cL64, cL99, cL100, cL700, cL1000, cL9999, cL10000, cI_add, cI_sub, cI_mul, cI_neg, cI_lt, cI_le, cI_eq, ne_eq, ifp, ifn, bI_p, bI_n, aZ_0, aZ_1, aZ_b, e_gdt, e_ifT, e_ifF, not_true_eq_false, not_false_eq_true, e_gd, cI_inT, cI_nat, f1, f2, t1, t2]
theorem steps_eq {D : aD} {T : aT} {f t : Int} (hp : TOKp T) (hC : CP D 2 T) (h1 : 0 ≤ f) (h2 : f < T 0 0 * T 0 1) (h3 : 0 ≤ t) (h4 : t < T 0 0 * T 0 1) : f_X4_steps (cI f) (cI t) D = some (cI (stN T f t), D) := by
  have hq := hp.1
  have a := xy_b hp h1 h2
  have b := xy_b hp h3 h4
  obtain ⟨f1, f2⟩ := CP.grid hC h1 h2
  obtain ⟨t1, t2⟩ := CP.grid hC h3 h4
  unfold f_X4_steps stN
  simp (disch := omega) only [e_gd, e_gdt, cI_inT, cI_nat, f1, f2, t1, t2, cI_sub, cI_abs, cI_add]
theorem smells_eq {D : aD} {T : aT} {s week hour : Int} (hp : TOKp T) (hC : CP D 2 T) (h1 : 0 ≤ s) (h2 : s < T 0 2) (w1 : 0 ≤ week) (w2 : week < 100) (u1 : 0 ≤ hour) (u2 : hour < 100) :
    (onN T s week hour → f_X8_smellsIn (15 + s.toNat) (cI week) (cI hour) D = some (cI 1, D)) ∧ (¬ onN T s week hour → f_X8_smellsIn (15 + s.toNat) (cI week) (cI hour) D = some (cI 0, D)) := by
  have hr := hp.2.2.1 s.toNat (by omega)
  obtain ⟨s1, s2, s3, s4, s5, s6, s7⟩ := CP.srt hC (s := s.toNat) (by omega)
  unfold f_X8_smellsIn onN
  refine ⟨fun h => ?_, fun h => ?_⟩
  · simp (disch := omega) only [e_bi, e_bind, e_let, e_tr, e_tl, cLm1, cLm2, cL0, cL1, cL2, cL3, cL4, cL5, cL6, cL7, cL8, cL9, cL10, cL11, cL12, cL13, cL14, cL15, cL16, cL17, cL18, cL19, cL20, cL21, cL22, cL23, cL24, cL25, cL29, cL30, cL31, cL32, cL36, cL48, cL50, cL51, cL52, cL64, cL99, cL100, cL700, cL1000, cL9999, cL10000, cI_add, cI_sub, cI_mul, cI_neg, cI_lt, cI_le, cI_eq, ne_eq, ifp, ifn, bI_p, bI_n, aZ_0, aZ_1, aZ_b, e_gdt, e_ifT, e_ifF, not_true_eq_false, not_false_eq_true, e_gd, s2, s3, s4, s5]
  · by_cases c1 : week < T 2 s.toNat
    · simp (disch := omega) only [e_bi, e_bind, e_let, e_tr, e_tl, cLm1, cLm2, cL0, cL1, cL2, cL3, cL4, cL5, cL6, cL7, cL8, cL9, cL10, cL11, cL12, cL13, cL14, cL15, cL16, cL17, cL18, cL19, cL20, cL21, cL22, cL23, cL24, cL25, cL29, cL30, cL31, cL32, cL36, cL48, cL50, cL51, cL52, cL64, cL99, cL100, cL700, cL1000, cL9999, cL10000, cI_add, cI_sub, cI_mul, cI_neg, cI_lt, cI_le, cI_eq, ne_eq, ifp, ifn, bI_p, bI_n, aZ_0, aZ_1, aZ_b, e_gdt, e_ifT, e_ifF, not_true_eq_false, not_false_eq_true, e_gd, s2, s3, s4, s5]
    · by_cases c2 : T 3 s.toNat < week
      · simp (disch := omega) only [e_bi, e_bind, e_let, e_tr, e_tl, cLm1, cLm2, cL0, cL1, cL2, cL3, cL4, cL5, cL6, cL7, cL8, cL9, cL10, cL11, cL12, cL13, cL14, cL15, cL16, cL17, cL18, cL19, cL20, cL21, cL22, cL23, cL24, cL25, cL29, cL30, cL31, cL32, cL36, cL48, cL50, cL51, cL52, cL64, cL99, cL100, cL700, cL1000, cL9999, cL10000, cI_add, cI_sub, cI_mul, cI_neg, cI_lt, cI_le, cI_eq, ne_eq, ifp, ifn, bI_p, bI_n, aZ_0, aZ_1, aZ_b, e_gdt, e_ifT, e_ifF, not_true_eq_false, not_false_eq_true, e_gd, s2, s3, s4, s5]
      · by_cases c3 : hour < T 4 s.toNat
        · simp (disch := omega) only [e_bi, e_bind, e_let, e_tr, e_tl, cLm1, cLm2, cL0, cL1, cL2, cL3, cL4, cL5, cL6, cL7, cL8, cL9, cL10, cL11, cL12, cL13, cL14, cL15, cL16, cL17, cL18, cL19, cL20, cL21, cL22, cL23, cL24, cL25, cL29, cL30, cL31, cL32, cL36, cL48, cL50, cL51, cL52, cL64, cL99, cL100, cL700, cL1000, cL9999, cL10000, cI_add, cI_sub, cI_mul, cI_neg, cI_lt, cI_le, cI_eq, ne_eq, ifp, ifn, bI_p, bI_n, aZ_0, aZ_1, aZ_b, e_gdt, e_ifT, e_ifF, not_true_eq_false, not_false_eq_true, e_gd, s2, s3, s4, s5]
        · simp (disch := omega) only [e_bi, e_bind, e_let, e_tr, e_tl, cLm1, cLm2, cL0, cL1, cL2, cL3, cL4, cL5, cL6, cL7, cL8, cL9, cL10, cL11, cL12, cL13, cL14, cL15, cL16, cL17, cL18, cL19, cL20, cL21, cL22, cL23, cL24, cL25, cL29, cL30, cL31, cL32, cL36, cL48, cL50, cL51, cL52, cL64, cL99, cL100, cL700, cL1000, cL9999, cL10000, cI_add, cI_sub, cI_mul, cI_neg, cI_lt, cI_le, cI_eq, ne_eq, ifp, ifn, bI_p, bI_n, aZ_0, aZ_1, aZ_b, e_gdt, e_ifT, e_ifF, not_true_eq_false, not_false_eq_true, e_gd, s2, s3, s4, s5]
theorem scent_eq {D : aD} {T : aT} {s m f t week hour w : Int} (hp : TOKp T) (hC : CP D 2 T) (hs1 : 0 ≤ s) (hs2 : s < T 0 2) (hm : m = 1 ∨ m = 3) (h1 : 0 ≤ f) (h2 : f < T 0 0 * T 0 1) (h3 : 0 ≤ t) (h4 : t < T 0 0 * T 0 1) (w1 : 0 ≤ week) (w2 : week < 100) (u1 : 0 ≤ hour) (u2 : hour < 100) (h5 : 0 ≤ w) (h6 : w < 5) :
    f_X6_scent (cI s) (cI m) (cI f) (cI t) (cI week) (cI hour) (cI w) D = some (cI (scN T s m f t week hour w), D) := by
  have hq := hp.1
  have a := al_b (w := w) hp h1 h2 h3 h4
  have b := st_b hp h1 h2 h3 h4
  have r := rw_b (w := w) hp hs1 hs2 hm h1 h2 h3 h4
  obtain ⟨q1, q2, q3, -⟩ := CP.two hC
  obtain ⟨s1, s2, s3, s4, s5, s6, s7⟩ := CP.srt hC (s := s.toNat) (by omega)
  have k1 := smells_eq hp hC hs1 hs2 w1 w2 u1 u2
  unfold f_X6_scent scN
  by_cases c1 : onN T s week hour
  · by_cases c2 : -(alN T f t w) ≤ T 0 8
    · rw [ifp ⟨c1, c2⟩]
      simp (disch := omega) only [e_gd, e_gdt, e_bi, cI_inT, cI_nat, along_eq hp hC h1 h2 h3 h4 h5 h6, k1.1 c1, steps_eq hp hC h1 h2 h3 h4, q3, s1, cI_neg, cI_mul, cI_sub, cI_add, ifp, ifn]
      have e : ¬ ((cI 1 : Int32) = 0) := by decide
      rw [ifn e]
      rw [ifp (show cI (-alN T f t w) ≤ cI (T 0 8) by rw [cI_le (by omega) (by omega) (by omega) (by omega)]; exact c2)]
      unfold rwN at r ⊢
      rw [cI_mx (by omega) (by omega)]
    · rw [ifn (fun z => c2 z.2)]
      simp (disch := omega) only [e_bi, e_bind, e_let, e_tr, e_tl, cLm1, cLm2, cL0, cL1, cL2, cL3, cL4, cL5, cL6, cL7, cL8, cL9, cL10, cL11, cL12, cL13, cL14, cL15, cL16, cL17, cL18, cL19, cL20, cL21, cL22, cL23, cL24, cL25, cL29, cL30, cL31, cL32, cL36, cL48, cL50, cL51, cL52, cL64, cL99, cL100, cL700, cL1000, cL9999, cL10000, cI_add, cI_sub, cI_mul, cI_neg, cI_lt, cI_le, cI_eq, ne_eq, ifp, ifn, bI_p, bI_n, aZ_0, aZ_1, aZ_b, e_gdt, e_ifT, e_ifF, not_true_eq_false, not_false_eq_true, e_gd, cI_inT, cI_nat, along_eq hp hC h1 h2 h3 h4 h5 h6, k1.1 c1, q3]
  · rw [ifn (fun z => c1 z.1)]
    simp (disch := omega) only [e_bi, e_bind, e_let, e_tr, e_tl, cLm1, cLm2, cL0, cL1, cL2, cL3, cL4, cL5, cL6, cL7, cL8, cL9, cL10, cL11, cL12, cL13, cL14, cL15, cL16, cL17, cL18, cL19, cL20, cL21, cL22, cL23, cL24, cL25, cL29, cL30, cL31, cL32, cL36, cL48, cL50, cL51, cL52, cL64, cL99, cL100, cL700, cL1000, cL9999, cL10000, cI_add, cI_sub, cI_mul, cI_neg, cI_lt, cI_le, cI_eq, ne_eq, ifp, ifn, bI_p, bI_n, aZ_0, aZ_1, aZ_b, e_gdt, e_ifT, e_ifF, not_true_eq_false, not_false_eq_true, e_gd, cI_inT, cI_nat, along_eq hp hC h1 h2 h3 h4 h5 h6, k1.2 c1]
def smN (T : aT) (p : Nat) (cell hour w : Int) : Int := if T 13 p = 1 then 0 else scN T (T 8 p) (if T 13 p = 2 then 3 else 1) (T 9 p) cell (T 15 1) hour w
theorem sm_b {T : aT} {p : Nat} {cell hour w : Int} (hp : TOKp T) (hP : (p : Int) < T 0 4) (h3 : 0 ≤ cell) (h4 : cell < T 0 0 * T 0 1) : 0 ≤ smN T p cell hour w ∧ smN T p cell hour w ≤ 360 := by
  have hr := hp.2.2.2.1 p hP
  unfold smN
  split
  · omega
  · exact sc_b hp (by omega) (by omega) (by split <;> omega) (by omega) (by omega) h3 h4
theorem plantScent_eq {D : aD} {T : aT} {p : Nat} {cell hour w : Int} (hp : TOKp T) (hn : TOKn T) (hC : CP D 2 T) (hN : CNow D T) (hP : (p : Int) < T 0 4) (h3 : 0 ≤ cell) (h4 : cell < T 0 0 * T 0 1) (u1 : 0 ≤ hour) (u2 : hour < 24) (h5 : 0 ≤ w) (h6 : w < 5) :
    f_X0_plantScent (cI (p : Int)) (cI cell) (cI hour) (cI w) D = some (cI (smN T p cell hour w), D) := by
  have hq := hp.1
  have hq2 := hn.1
  have hr := hp.2.2.2.1 p hP
  have hh := hn.2.1 p hP
  obtain ⟨-, -, -, -, -, q6, q7, q8, -⟩ := CP.two hC
  obtain ⟨r1, -, -, -, -, -, -, -, r2, -⟩ := CNow.two hN
  have e : ((p : Int)).toNat = p := by omega
  have k := fun m hm => scent_eq (m := m) hp hC hr.1 hr.2.1 hm hr.2.2.1 hr.2.2.2.1 h3 h4 (show 0 ≤ T 15 1 by omega) (show T 15 1 < 100 by omega) u1 (show hour < 100 by omega) h5 h6
  unfold f_X0_plantScent J_X0_plantScent_33 smN
  by_cases c1 : T 13 p = 1
  · simp (disch := omega) only [e_bi, e_bind, e_let, e_tr, e_tl, cLm1, cLm2, cL0, cL1, cL2, cL3, cL4, cL5, cL6, cL7, cL8, cL9, cL10, cL11, cL12, cL13, cL14, cL15, cL16, cL17, cL18, cL19, cL20, cL21, cL22, cL23, cL24, cL25, cL29, cL30, cL31, cL32, cL36, cL48, cL50, cL51, cL52, cL64, cL99, cL100, cL700, cL1000, cL9999, cL10000, cI_add, cI_sub, cI_mul, cI_neg, cI_lt, cI_le, cI_eq, ne_eq, ifp, ifn, bI_p, bI_n, aZ_0, aZ_1, aZ_b, e_gdt, e_ifT, e_ifF, not_true_eq_false, not_false_eq_true, e_gd, cI_inT, cI_nat, e, r1]
  · by_cases c2 : T 13 p = 2
    · simp (disch := omega) only [e_bi, e_bind, e_let, e_tr, e_tl, cLm1, cLm2, cL0, cL1, cL2, cL3, cL4, cL5, cL6, cL7, cL8, cL9, cL10, cL11, cL12, cL13, cL14, cL15, cL16, cL17, cL18, cL19, cL20, cL21, cL22, cL23, cL24, cL25, cL29, cL30, cL31, cL32, cL36, cL48, cL50, cL51, cL52, cL64, cL99, cL100, cL700, cL1000, cL9999, cL10000, cI_add, cI_sub, cI_mul, cI_neg, cI_lt, cI_le, cI_eq, ne_eq, ifp, ifn, bI_p, bI_n, aZ_0, aZ_1, aZ_b, e_gdt, e_ifT, e_ifF, not_true_eq_false, not_false_eq_true, e_gd, cI_inT, cI_nat, e, r1, r2, q6, q7, k 3 (Or.inr rfl)]
    · simp (disch := omega) only [e_bi, e_bind, e_let, e_tr, e_tl, cLm1, cLm2, cL0, cL1, cL2, cL3, cL4, cL5, cL6, cL7, cL8, cL9, cL10, cL11, cL12, cL13, cL14, cL15, cL16, cL17, cL18, cL19, cL20, cL21, cL22, cL23, cL24, cL25, cL29, cL30, cL31, cL32, cL36, cL48, cL50, cL51, cL52, cL64, cL99, cL100, cL700, cL1000, cL9999, cL10000, cI_add, cI_sub, cI_mul, cI_neg, cI_lt, cI_le, cI_eq, ne_eq, ifp, ifn, bI_p, bI_n, aZ_0, aZ_1, aZ_b, e_gdt, e_ifT, e_ifF, not_true_eq_false, not_false_eq_true, e_gd, cI_inT, cI_nat, e, r1, r2, q6, q7, k 1 (Or.inl rfl)]
/-- what the reference sees of a town with perhaps one plant more: as many as it counts -/
def MS (D : aD) (T : aT) : Prop := (∀ j : Nat, j < 15 → j ≠ 4 → gI D 91 j = cI (T 0 j)) ∧
  (∀ f s : Nat, f < 7 → (s : Int) < T 0 2 → gI D (92 + f) s = cI (T (1 + f) s)) ∧
  (∀ r p : Nat, r < 3 → (p : Int) < T 0 4 → gI D (99 + r) p = cI (T (8 + r) p)) ∧
  (∀ i : Nat, (i : Int) < T 0 5 → gI D 102 i = cI (T 11 i)) ∧
  (∀ m : Nat, m < 36 → gI D 103 m = cI (T 12 m)) ∧ gI D 88 30 = cI (T 0 4) ∧
  (∀ p : Nat, (p : Int) < T 0 4 → gI D 106 p = cI (T 13 p)) ∧ (∀ i : Nat, i < 5 → gI D 107 i = cI (T 14 i)) ∧ gI D 88 31 = cI (T 15 0) ∧ gI D 88 32 = cI (T 15 1)
/-- as TOKp and TOKn, with at most 13 plants, without what was nosed -/
def TOKs (T : aT) : Prop := (2 ≤ T 0 0 ∧ T 0 0 ≤ 8 ∧ 2 ≤ T 0 1 ∧ T 0 1 ≤ 8 ∧ 4 ≤ T 0 0 * T 0 1 ∧ T 0 0 * T 0 1 ≤ 64 ∧ 0 ≤ T 0 2 ∧ T 0 2 ≤ 6 ∧ 0 ≤ T 0 3 ∧ T 0 3 ≤ 5 ∧ 0 ≤ T 0 4 ∧ T 0 4 ≤ 13 ∧ 0 ≤ T 0 5 ∧ T 0 5 ≤ 5 ∧ 0 ≤ T 0 6 ∧ T 0 6 ≤ 20 ∧ 0 ≤ T 0 7 ∧ T 0 7 ≤ 9 ∧ 0 ≤ T 0 8 ∧ T 0 8 ≤ 14 ∧ 0 ≤ T 0 9 ∧ T 0 9 ≤ 99) ∧
  (∀ w : Nat, w < 5 → 0 ≤ T 0 (10 + w) ∧ T 0 (10 + w) ≤ 99) ∧
  (∀ s : Nat, (s : Int) < T 0 2 → 1 ≤ T 1 s ∧ T 1 s ≤ 99 ∧ 0 ≤ T 2 s ∧ T 2 s ≤ 51 ∧ 0 ≤ T 3 s ∧ T 3 s ≤ 51 ∧ 0 ≤ T 4 s ∧ T 4 s ≤ 23 ∧ 0 ≤ T 5 s ∧ T 5 s ≤ 23 ∧ -9 ≤ T 6 s ∧ T 6 s ≤ 9 ∧ 0 ≤ T 7 s ∧ T 7 s ≤ 1) ∧
  (∀ p : Nat, (p : Int) < T 0 4 → 0 ≤ T 8 p ∧ T 8 p < T 0 2 ∧ 0 ≤ T 9 p ∧ T 9 p < T 0 0 * T 0 1 ∧ -1 ≤ T 10 p ∧ T 10 p < T 0 3 ∧ 0 ≤ T 13 p ∧ T 13 p ≤ 2) ∧
  (∀ i : Nat, (i : Int) < T 0 5 → 0 ≤ T 11 i ∧ T 11 i < T 0 0 * T 0 1) ∧
  (∀ m : Nat, m < 36 → 0 ≤ T 12 m ∧ T 12 m ≤ 100) ∧ (0 ≤ T 15 0 ∧ T 15 0 ≤ 23 ∧ 0 ≤ T 15 1 ∧ T 15 1 ≤ 51) ∧ (∀ i : Nat, (i : Int) < T 0 5 → 0 ≤ T 14 i ∧ T 14 i < T 0 5)
theorem TOKs.of {T : aT} (hp : TOKp T) (hn : TOKn T) : TOKs T :=
  have hq := hp.1
  have hr := hn.1
  ⟨by omega, hp.2.1, hp.2.2.1, fun p h => have a := hp.2.2.2.1 p h; have b := hn.2.1 p h; ⟨a.1, a.2.1, a.2.2.1, a.2.2.2.1, a.2.2.2.2.1, a.2.2.2.2.2, b.1, b.2⟩, hp.2.2.2.2.1, hp.2.2.2.2.2, by omega, hn.2.2.1⟩
theorem MS.of {D : aD} {T : aT} (hM : MT D T) (hN : MNow D T) : MS D T :=
  ⟨fun j h _ => hM.1 j h, hM.2.1, hM.2.2.1, hM.2.2.2.1, hM.2.2.2.2.1, hM.2.2.2.2.2, hN.1, hN.2.1, hN.2.2.2.2 0 (by omega), hN.2.2.2.2 1 (by omega)⟩
theorem MS.srt {D : aD} {T : aT} (h : MS D T) {s : Nat} (hs : (s : Int) < T 0 2) : gI D 92 s = cI (T 1 s) ∧ gI D 93 s = cI (T 2 s) ∧ gI D 94 s = cI (T 3 s) ∧ gI D 95 s = cI (T 4 s) ∧ gI D 96 s = cI (T 5 s) ∧ gI D 97 s = cI (T 6 s) ∧ gI D 98 s = cI (T 7 s) :=
  have k := h.2.1
  ⟨k 0 s (by omega) hs, k 1 s (by omega) hs, k 2 s (by omega) hs, k 3 s (by omega) hs, k 4 s (by omega) hs, k 5 s (by omega) hs, k 6 s (by omega) hs⟩
theorem MS.plt {D : aD} {T : aT} (h : MS D T) {p : Nat} (hs : (p : Int) < T 0 4) : gI D 99 p = cI (T 8 p) ∧ gI D 100 p = cI (T 9 p) ∧ gI D 101 p = cI (T 10 p) ∧ gI D 106 p = cI (T 13 p) :=
  have k := h.2.2.1
  ⟨k 0 p (by omega) hs, k 1 p (by omega) hs, k 2 p (by omega) hs, h.2.2.2.2.2.2.1 p hs⟩
theorem MS.fr {D D' : aD} {T : aT} (H : MS D T) (e : ∀ k j, (91 ≤ k ∧ k ≤ 103) ∨ k = 106 ∨ k = 107 → gI D' k j = gI D k j) (e2 : ∀ j, 30 ≤ j → j ≤ 32 → gI D' 88 j = gI D 88 j) : MS D' T :=
  ⟨fun j a b => (e _ _ (by omega)).trans (H.1 j a b), fun f s a b => (e _ _ (by omega)).trans (H.2.1 f s a b), fun r p a b => (e _ _ (by omega)).trans (H.2.2.1 r p a b), fun i a => (e _ _ (by omega)).trans (H.2.2.2.1 i a), fun m a => (e _ _ (by omega)).trans (H.2.2.2.2.1 m a), (e2 _ (by omega) (by omega)).trans H.2.2.2.2.2.1, fun p a => (e _ _ (by omega)).trans (H.2.2.2.2.2.2.1 p a), fun i a => (e _ _ (by omega)).trans (H.2.2.2.2.2.2.2.1 i a), (e2 _ (by omega) (by omega)).trans H.2.2.2.2.2.2.2.2.1, (e2 _ (by omega) (by omega)).trans H.2.2.2.2.2.2.2.2.2⟩
theorem aNz_c {a : Int} (h1 : 0 < a) (h2 : a < 2147483648) : aNz (cI a) = true := by
  have e : ¬ (cI a = 0) := by
    show ¬ (cI a = cI 0)
    rw [cI_eq (by omega) h2 (by omega) (by omega)]
    omega
  unfold aNz
  simp [e]
theorem xy_s {T : aT} {c : Int} (hp : TOKs T) (h1 : 0 ≤ c) (h2 : c < T 0 0 * T 0 1) : 0 ≤ c % T 0 0 ∧ c % T 0 0 ≤ 7 ∧ 0 ≤ c / T 0 0 ∧ c / T 0 0 ≤ 7 := by
  have hq := hp.1
  have a1 := Int.emod_nonneg c (show T 0 0 ≠ 0 by omega)
  have a2 := Int.emod_lt_of_pos c (show 0 < T 0 0 by omega)
  have a3 := Int.ediv_nonneg h1 (show 0 ≤ T 0 0 by omega)
  have a4 : c / T 0 0 < T 0 1 := Int.ediv_lt_of_lt_mul (by omega) (by rw [Int.mul_comm]; exact h2)
  omega
theorem rem_e (a b : Int) : a - a / b * b = a % b := by rw [Int.emod_def, Int.mul_comm b]
/-- the reference's last rows, of one plant -/
theorem sm198 {D : aD} {T : aT} {x y al st m : Int} (hM : MS D T) (hp : TOKs T) (hx : -7 ≤ x ∧ x ≤ 7) (hy : -7 ≤ y ∧ y ≤ 7) (ha : -7 ≤ al ∧ al ≤ 7) (hst : 0 ≤ st ∧ st ≤ 99) (hm : m = 1 ∨ m = 3) : J_X12_smellOf_198 (cI x) (cI y) (cI al) (cI m) (cI st) D = some (cI (mxI (st * m - T 0 6 * (abI x + abI y) + T 0 7 * al)), D) := by
  have hq := hp.1
  have h6 := hM.1 6 (by omega) (by omega)
  have h7 := hM.1 7 (by omega) (by omega)
  have b : 0 ≤ abI x + abI y ∧ abI x + abI y ≤ 14 := by unfold abI; split <;> split <;> omega
  have c := mulB (show 0 ≤ T 0 6 by omega) (show T 0 6 ≤ 20 by omega) b.1 b.2
  have d := mulS (show 0 ≤ T 0 7 by omega) (show T 0 7 ≤ 9 by omega) ha.1 ha.2
  have f : 0 ≤ st * m ∧ st * m ≤ 297 := by rcases hm with rfl | rfl <;> omega
  unfold J_X12_smellOf_198
  simp (disch := omega) only [e_gd, e_gdt, e_let, cL6, cL7, cX6, cX7, cI_inT, h6, h7, cI_abs, cI_add, cI_mul, cI_sub]
  rw [cI_mx (by omega) (by omega)]
theorem smellOf_eq {D : aD} {T : aT} {p : Nat} {cell hour w : Int} (hp : TOKs T) (hM : MS D T) (hP : (p : Int) < T 0 4) (h3 : 0 ≤ cell) (h4 : cell < T 0 0 * T 0 1) (u1 : 0 ≤ hour) (u2 : hour < 24) (h5 : 0 ≤ w) (h6 : w < 5) :
    f_X12_smellOf (cI (p : Int)) (cI cell) (cI hour) (cI w) D = some (cI (smN T p cell hour w), D) := by
  have hq := hp.1
  have hq2 := hp.2.2.2.2.2.2.1
  have hr := hp.2.2.2.1 p hP
  have hs := hp.2.2.1 (T 8 p).toNat (by omega)
  obtain ⟨q1, q2, q3, q4⟩ := MS.plt hM hP
  obtain ⟨s1, s2, s3, s4, s5, s6, s7⟩ := MS.srt hM (s := (T 8 p).toNat) (by omega)
  have m0 := hM.1 0 (by omega) (by omega)
  have m8 := hM.1 8 (by omega) (by omega)
  have m9 := hM.2.2.2.2.2.2.2.2.2
  have e : ((p : Int)).toNat = p := by omega
  have a := xy_s hp h3 h4
  have b := xy_s hp hr.2.2.1 hr.2.2.2.1
  unfold f_X12_smellOf smN
  by_cases c1 : T 13 p = 1
  · simp (disch := omega) only [e_bi, e_bind, e_let, e_tr, e_tl, cLm1, cLm2, cL0, cL1, cL2, cL3, cL4, cL5, cL6, cL7, cL8, cL9, cL10, cL11, cL12, cL13, cL14, cL15, cL16, cL17, cL18, cL19, cL20, cL21, cL22, cL23, cL24, cL25, cL29, cL30, cL31, cL32, cL36, cL48, cL50, cL51, cL52, cL64, cL99, cL100, cL700, cL1000, cL9999, cL10000, cI_add, cI_sub, cI_mul, cI_neg, cI_lt, cI_le, cI_eq, ne_eq, ifp, ifn, bI_p, bI_n, aZ_0, aZ_1, aZ_b, e_gdt, e_ifT, e_ifF, not_true_eq_false, not_false_eq_true, e_gd, cI_inT, cI_nat, e, q1, q4]
  · rw [ifn c1]
    by_cases c2 : onN T (T 8 p) (T 15 1) hour
    · have c2' := c2
      unfold onN at c2'
      have e2 : scN T (T 8 p) (if T 13 p = 2 then 3 else 1) (T 9 p) cell (T 15 1) hour w = if -(alN T (T 9 p) cell w) ≤ T 0 8 then mxI (rwN T (T 8 p) (if T 13 p = 2 then 3 else 1) (T 9 p) cell w) else 0 := by
        unfold scN
        by_cases c : -(alN T (T 9 p) cell w) ≤ T 0 8
        · rw [ifp ⟨c2, c⟩, ifp c]
        · rw [ifn (fun z => c z.2), ifn c]
      rw [e2]
      simp (disch := omega) only [e_bi, e_bind, e_let, e_tr, e_tl, cLm1, cLm2, cL0, cL1, cL2, cL3, cL4, cL5, cL6, cL7, cL8, cL9, cL10, cL11, cL12, cL13, cL14, cL15, cL16, cL17, cL18, cL19, cL20, cL21, cL22, cL23, cL24, cL25, cL29, cL30, cL31, cL32, cL36, cL48, cL50, cL51, cL52, cL64, cL99, cL100, cL700, cL1000, cL9999, cL10000, cI_add, cI_sub, cI_mul, cI_neg, cI_lt, cI_le, cI_eq, ne_eq, ifp, ifn, bI_p, bI_n, aZ_0, aZ_1, aZ_b, e_gdt, e_ifT, e_ifF, not_true_eq_false, not_false_eq_true, e_gd, cX0, cX1, cX2, cX3, cX4, cX5, cX6, cX7, cX8, cX9, cX10, cX11, cX12, cX13, cX14, cX15, cX16, cX17, cX18, cX19, cX20, cX21, cX22, cX23, cX24, cX25, cX29, cX30, cX31, cX32, cX36, Int.reduceToNat, cI_inT, cI_nat, e, q1, q2, q4, m0, m9, s2, s3, s4, s5, isIn_eq, aNz_c, cI_div, rem_e]
      have J : ∀ al : Int, -7 ≤ al → al ≤ 7 → J_X12_smellOf_159 (cI (p : Int)) (cI (T 8 p)) (cI (cell % T 0 0 - T 9 p % T 0 0)) (cI (cell / T 0 0 - T 9 p / T 0 0)) (cI al) D = some (cI (if -al ≤ T 0 8 then mxI (T 1 (T 8 p).toNat * (if T 13 p = 2 then 3 else 1) - T 0 6 * (abI (cell % T 0 0 - T 9 p % T 0 0) + abI (cell / T 0 0 - T 9 p / T 0 0)) + T 0 7 * al) else 0), D) := by
        intro al l1 l2
        unfold J_X12_smellOf_159
        have k := fun m hm => sm198 (x := cell % T 0 0 - T 9 p % T 0 0) (y := cell / T 0 0 - T 9 p / T 0 0) (al := al) (st := T 1 (T 8 p).toNat) (m := m) hM hp (by omega) (by omega) ⟨l1, l2⟩ (by omega) hm
        by_cases c3 : -al ≤ T 0 8
        · by_cases c4 : T 13 p = 2
          · simp (disch := omega) only [e_bi, e_bind, e_let, e_tr, e_tl, cLm1, cLm2, cL0, cL1, cL2, cL3, cL4, cL5, cL6, cL7, cL8, cL9, cL10, cL11, cL12, cL13, cL14, cL15, cL16, cL17, cL18, cL19, cL20, cL21, cL22, cL23, cL24, cL25, cL29, cL30, cL31, cL32, cL36, cL48, cL50, cL51, cL52, cL64, cL99, cL100, cL700, cL1000, cL9999, cL10000, cI_add, cI_sub, cI_mul, cI_neg, cI_lt, cI_le, cI_eq, ne_eq, ifp, ifn, bI_p, bI_n, aZ_0, aZ_1, aZ_b, e_gdt, e_ifT, e_ifF, not_true_eq_false, not_false_eq_true, e_gd, cX0, cX1, cX2, cX3, cX4, cX5, cX6, cX7, cX8, cX9, cX10, cX11, cX12, cX13, cX14, cX15, cX16, cX17, cX18, cX19, cX20, cX21, cX22, cX23, cX24, cX25, cX29, cX30, cX31, cX32, cX36, Int.reduceToNat, cI_inT, cI_nat, e, q4, m8, s1, k 3 (Or.inr rfl)]
          · simp (disch := omega) only [e_bi, e_bind, e_let, e_tr, e_tl, cLm1, cLm2, cL0, cL1, cL2, cL3, cL4, cL5, cL6, cL7, cL8, cL9, cL10, cL11, cL12, cL13, cL14, cL15, cL16, cL17, cL18, cL19, cL20, cL21, cL22, cL23, cL24, cL25, cL29, cL30, cL31, cL32, cL36, cL48, cL50, cL51, cL52, cL64, cL99, cL100, cL700, cL1000, cL9999, cL10000, cI_add, cI_sub, cI_mul, cI_neg, cI_lt, cI_le, cI_eq, ne_eq, ifp, ifn, bI_p, bI_n, aZ_0, aZ_1, aZ_b, e_gdt, e_ifT, e_ifF, not_true_eq_false, not_false_eq_true, e_gd, cX0, cX1, cX2, cX3, cX4, cX5, cX6, cX7, cX8, cX9, cX10, cX11, cX12, cX13, cX14, cX15, cX16, cX17, cX18, cX19, cX20, cX21, cX22, cX23, cX24, cX25, cX29, cX30, cX31, cX32, cX36, Int.reduceToNat, cI_inT, cI_nat, e, q4, m8, s1, k 1 (Or.inl rfl)]
        · simp (disch := omega) only [e_bi, e_bind, e_let, e_tr, e_tl, cLm1, cLm2, cL0, cL1, cL2, cL3, cL4, cL5, cL6, cL7, cL8, cL9, cL10, cL11, cL12, cL13, cL14, cL15, cL16, cL17, cL18, cL19, cL20, cL21, cL22, cL23, cL24, cL25, cL29, cL30, cL31, cL32, cL36, cL48, cL50, cL51, cL52, cL64, cL99, cL100, cL700, cL1000, cL9999, cL10000, cI_add, cI_sub, cI_mul, cI_neg, cI_lt, cI_le, cI_eq, ne_eq, ifp, ifn, bI_p, bI_n, aZ_0, aZ_1, aZ_b, e_gdt, e_ifT, e_ifF, not_true_eq_false, not_false_eq_true, e_gd, cX0, cX1, cX2, cX3, cX4, cX5, cX6, cX7, cX8, cX9, cX10, cX11, cX12, cX13, cX14, cX15, cX16, cX17, cX18, cX19, cX20, cX21, cX22, cX23, cX24, cX25, cX29, cX30, cX31, cX32, cX36, Int.reduceToNat, cI_inT, cI_nat, e, q4, m8, s1]
      unfold rwN stN
      have ew : w = 0 ∨ w = 1 ∨ w = 2 ∨ w = 3 ∨ w = 4 := by omega
      rcases ew with rfl | rfl | rfl | rfl | rfl <;> unfold alN <;>
      simp (disch := omega) only [e_bi, e_bind, e_let, e_tr, e_tl, cLm1, cLm2, cL0, cL1, cL2, cL3, cL4, cL5, cL6, cL7, cL8, cL9, cL10, cL11, cL12, cL13, cL14, cL15, cL16, cL17, cL18, cL19, cL20, cL21, cL22, cL23, cL24, cL25, cL29, cL30, cL31, cL32, cL36, cL48, cL50, cL51, cL52, cL64, cL99, cL100, cL700, cL1000, cL9999, cL10000, cI_add, cI_sub, cI_mul, cI_neg, cI_lt, cI_le, cI_eq, ne_eq, ifp, ifn, bI_p, bI_n, aZ_0, aZ_1, aZ_b, e_gdt, e_ifT, e_ifF, not_true_eq_false, not_false_eq_true, e_gd, Int.neg_sub, J]
    · have e2 : scN T (T 8 p) (if T 13 p = 2 then 3 else 1) (T 9 p) cell (T 15 1) hour w = 0 := by
        unfold scN
        rw [ifn (fun z => c2 z.1)]
      rw [e2]
      unfold onN at c2
      have i1 : (cI (p : Int)).toNatClampNeg = p := by rw [cI_nat (by omega) (by omega)]; omega
      have i2 : (cI (T 8 p)).toNatClampNeg = (T 8 p).toNat := cI_nat (by omega) (by omega)
      have g1 : ¬ (cI (T 13 p) = 1) := by
        show ¬ (cI (T 13 p) = cI 1)
        rw [cI_eq (by omega) (by omega) (by omega) (by omega)]
        exact c1
      rw [e_gd (cI_inT (by omega) (by omega) (by omega)), e_let, e_gd (cI_inT (by omega) (by omega) (by omega)), i1, q1, q4, ifn g1, e_gd (cI_inT (by omega) (by omega) (by omega)), e_gd (cI_inT (by omega) (by omega) (by omega)), i2, m9, s2, s3, isIn_eq (by omega) (by omega) (by omega) (by omega) (by omega) (by omega), e_bi]
      by_cases c3 : T 2 (T 8 p).toNat ≤ T 15 1 ∧ T 15 1 ≤ T 3 (T 8 p).toNat
      · rw [bI_p c3, ifn (by decide), e_gd (cI_inT (by omega) (by omega) (by omega)), e_gd (cI_inT (by omega) (by omega) (by omega)), s4, s5, isIn_eq (by omega) (by omega) (by omega) (by omega) (by omega) (by omega), e_bi, bI_n (by omega), ifn (fun z => z (by decide))]
        rfl
      · rw [bI_n c3, ifp (by decide)]
        rfl
end SCN
