/-! fills, copies; image, restore -/
section CPY
theorem ofNat_c (n : Nat) : Int32.ofNat n = cI (n : Int) := Int32.ofInt_eq_ofNat.symm
theorem fill_ok {a n : Nat} {v : Int32} {D : aD} (hn : n ≤ 100000) : Ok (f_J7_fill_53178 a n v D) (fun D' => (∀ j : Nat, j < n → gI D' a j = v) ∧ (∀ k j : Nat, ¬ (k = a ∧ j < n) → gI D' k j = gI D k j) ∧ D'.2 = D.2) := by
  unfold f_J7_fill_53178 J_J7_fill_53178_5
  rw [e_let]
  refine ok_bindI (ok_lp (fun i s => s.1 = cI (i : Int) ∧ (∀ j : Nat, j < i → gI s.2 a j = v) ∧ (∀ k j : Nat, ¬ (k = a ∧ j < i) → gI s.2 k j = gI D k j) ∧ s.2.2 = D.2) n (by omega) ⟨rfl, fun j h => absurd h (by omega), fun _ _ _ => rfl, rfl⟩ ?_)
  rintro i ⟨x, D1⟩ hi ⟨rfl, h1, h2, h3⟩
  show Ok (B_J7_fill_53178_5 a n v (Int32.ofNat n) (cI (i : Int)) D1) _
  unfold B_J7_fill_53178_5
  rw [ofNat_c]
  by_cases c : i < n
  · simp (disch := omega) only [e_bi, e_bind, e_let, e_tr, e_tl, cLm1, cLm2, cL0, cL1, cL2, cL3, cL4, cL5, cL6, cL7, cL8, cL9, cL10, cL11, cL12, cL13, cL14, cL15, cL16, cL17, cL18, cL19, cL20, cL21, cL22, cL23, cL24, cL25, cL29, cL30, cL31, cL32, cL36, cL48, cL50, cL51, cL52, cL64, cL99, cL100, cL700, cL1000, cL9999, cL10000, cI_add, cI_sub, cI_mul, cI_neg, cI_lt, cI_le, cI_eq, ne_eq, ifp, ifn, bI_p, bI_n, aZ_0, aZ_1, aZ_b, e_gdt, e_ifT, e_ifF, not_true_eq_false, not_false_eq_true, e_gd, cI_inT, cI_nat, ok_some]
    refine Or.inl ⟨_, rfl, c, ?_, fun j hj => ?_, fun k j hk => ?_, h3⟩
    · show cI (i + 1 : Int) = cI ((i + 1 : Nat) : Int)
      rfl
    · show gI (pI D1 a (i : Int).toNat v) a j = v
      by_cases e : j = i
      · subst e; exact gI_eq
      · rw [gI_fr (by omega)]; exact h1 j (by omega)
    · show gI (pI D1 a (i : Int).toNat v) k j = gI D k j
      rw [gI_fr (by omega)]; exact h2 k j (by omega)
  · simp (disch := omega) only [e_bi, e_bind, e_let, e_tr, e_tl, cLm1, cLm2, cL0, cL1, cL2, cL3, cL4, cL5, cL6, cL7, cL8, cL9, cL10, cL11, cL12, cL13, cL14, cL15, cL16, cL17, cL18, cL19, cL20, cL21, cL22, cL23, cL24, cL25, cL29, cL30, cL31, cL32, cL36, cL48, cL50, cL51, cL52, cL64, cL99, cL100, cL700, cL1000, cL9999, cL10000, cI_add, cI_sub, cI_mul, cI_neg, cI_lt, cI_le, cI_eq, ne_eq, ifp, ifn, bI_p, bI_n, aZ_0, aZ_1, aZ_b, e_gdt, e_ifT, e_ifF, not_true_eq_false, not_false_eq_true, e_gd, ok_some]
    refine Or.inr ⟨_, rfl, ?_⟩
    unfold J_J7_fill_53178_20
    rw [ok_some]
    exact ⟨fun j hj => h1 j (by omega), fun k j hk => h2 k j (by omega), h3⟩
theorem be_ok {a0 n0 a1 n1 : Nat} {D : aD} (ha : a0 ≠ a1) (h01 : n0 ≤ n1) (hn : n1 ≤ 100000) : Ok (f_X12_be a0 n0 a1 n1 D) (fun D' => (∀ j : Nat, j < n0 → gI D' a0 j = gI D a1 j) ∧ (∀ k j : Nat, ¬ (k = a0 ∧ j < n0) → gI D' k j = gI D k j) ∧ D'.2 = D.2) := by
  unfold f_X12_be J_X12_be_2
  refine ok_bindI (ok_lp (fun i s => s.1 = cI (i : Int) ∧ (∀ j : Nat, j < i → gI s.2 a0 j = gI D a1 j) ∧ (∀ k j : Nat, ¬ (k = a0 ∧ j < i) → gI s.2 k j = gI D k j) ∧ s.2.2 = D.2) n0 (by omega) ⟨rfl, fun j h => absurd h (by omega), fun _ _ _ => rfl, rfl⟩ ?_)
  rintro i ⟨x, D1⟩ hi ⟨rfl, h1, h2, h3⟩
  show Ok (B_X12_be_2 a0 n0 a1 n1 (cI (i : Int)) D1) _
  unfold B_X12_be_2
  rw [ofNat_c]
  by_cases c : i < n0
  · simp (disch := omega) only [e_bi, e_bind, e_let, e_tr, e_tl, cLm1, cLm2, cL0, cL1, cL2, cL3, cL4, cL5, cL6, cL7, cL8, cL9, cL10, cL11, cL12, cL13, cL14, cL15, cL16, cL17, cL18, cL19, cL20, cL21, cL22, cL23, cL24, cL25, cL29, cL30, cL31, cL32, cL36, cL48, cL50, cL51, cL52, cL64, cL99, cL100, cL700, cL1000, cL9999, cL10000, cI_add, cI_sub, cI_mul, cI_neg, cI_lt, cI_le, cI_eq, ne_eq, ifp, ifn, bI_p, bI_n, aZ_0, aZ_1, aZ_b, e_gdt, e_ifT, e_ifF, not_true_eq_false, not_false_eq_true, e_gd, cI_inT, cI_nat, ok_some]
    refine Or.inl ⟨_, rfl, c, rfl, fun j hj => ?_, fun k j hk => ?_, h3⟩
    · show gI (pI D1 a0 (i : Int).toNat (gI D1 a1 (i : Int).toNat)) a0 j = _
      by_cases e : j = i
      · subst e; rw [show ((j : Int)).toNat = j by omega, gI_eq, h2 a1 j (by omega)]
      · rw [gI_fr (by omega)]; exact h1 j (by omega)
    · show gI (pI D1 a0 (i : Int).toNat _) k j = gI D k j
      rw [gI_fr (by omega)]; exact h2 k j (by omega)
  · simp (disch := omega) only [e_bi, e_bind, e_let, e_tr, e_tl, cLm1, cLm2, cL0, cL1, cL2, cL3, cL4, cL5, cL6, cL7, cL8, cL9, cL10, cL11, cL12, cL13, cL14, cL15, cL16, cL17, cL18, cL19, cL20, cL21, cL22, cL23, cL24, cL25, cL29, cL30, cL31, cL32, cL36, cL48, cL50, cL51, cL52, cL64, cL99, cL100, cL700, cL1000, cL9999, cL10000, cI_add, cI_sub, cI_mul, cI_neg, cI_lt, cI_le, cI_eq, ne_eq, ifp, ifn, bI_p, bI_n, aZ_0, aZ_1, aZ_b, e_gdt, e_ifT, e_ifF, not_true_eq_false, not_false_eq_true, e_gd, ok_some]
    refine Or.inr ⟨_, rfl, ?_⟩
    unfold J_X12_be_20
    rw [ok_some]
    exact ⟨fun j hj => h1 j (by omega), fun k j hk => h2 k j (by omega), h3⟩
theorem gI_cp {D : aD} {k0 k1 k j : Nat} {s d n : Int} (h1 : 0 ≤ s) (h2 : s < 2147483648) (h3 : 0 ≤ d) (h4 : d < 2147483648) (h5 : 0 ≤ n) (h6 : n < 2147483648) : gI (aCp D k0 k1 (cI s) (cI d) (cI n)) k j = if k = k1 ∧ d.toNat ≤ j ∧ j < d.toNat + n.toNat then gI D k0 (s.toNat + (j - d.toNat)) else gI D k j := by
  unfold aCp
  rw [gI_pA, cI_nat h1 h2, cI_nat h3 h4, cI_nat h5 h6]
  unfold va_cpy
  by_cases a : k = k1
  · subst a
    by_cases b : d.toNat ≤ j ∧ j < d.toNat + n.toNat
    · rw [if_pos rfl, if_pos b, if_pos ⟨rfl, b⟩]; rfl
    · rw [if_pos rfl, if_neg b, if_neg (fun z => b z.2)]; rfl
  · rw [if_neg a, if_neg (fun z => a z.1)]
theorem cp_N {D : aD} {k0 k1 k j : Nat} {s d n : Int32} (h : k ≠ k1) : gI (aCp D k0 k1 s d n) k j = gI D k j := by
  unfold aCp
  rw [gI_pA, if_neg h]
theorem cp_E {D : aD} {k0 k1 j : Nat} {n : Int} (h5 : 0 ≤ n) (h6 : n < 2147483648) (h : j < n.toNat) : gI (aCp D k0 k1 (cI 0) (cI 0) (cI n)) k1 j = gI D k0 j := by
  rw [gI_cp (by omega) (by omega) (by omega) (by omega) h5 h6, if_pos ⟨rfl, by omega, by omega⟩]
  congr 1
  omega
theorem cp_2 {D : aD} {k0 k1 : Nat} {s d n : Int32} : (aCp D k0 k1 s d n).2 = D.2 := rfl
theorem cg_c {s d n : Int} {n0 n1 : Nat} (h1 : 0 ≤ s) (h2 : s < 2147483648) (h3 : 0 ≤ d) (h4 : d < 2147483648) (h5 : 0 ≤ n) (h6 : n < 2147483648) (h7 : s.toNat + n.toNat ≤ n0) (h8 : d.toNat + n.toNat ≤ n1) : aCg (cI s) (cI d) (cI n) n0 n1 = true := by
  unfold aCg
  have e : ∀ x : Int, 0 ≤ x → x < 2147483648 → decide (cI x < 0) = false := fun x a b => by
    have : ¬ (cI x < 0) := by
      show ¬ (cI x < cI 0)
      rw [cI_lt (by omega) b (by omega) (by omega)]
      omega
    simp [this]
  rw [e s h1 h2, e d h3 h4, e n h5 h6, cI_nat h1 h2, cI_nat h3 h4, cI_nat h5 h6]
  simp [h7, h8]
theorem aNow.cpy {D D' : aD} {h o n st fk f h' o' n' st' fk' f' : Nat} {T : aT} (hP : T 0 4 ≤ 12) (H : aNow D h o n st fk f T) (e1 : ∀ j : Nat, j < 12 → gI D' h' j = gI D h j) (e2 : ∀ j : Nat, j < 5 → gI D' o' j = gI D o j) (e3 : ∀ r j : Nat, r < 4 → j < 12 → gI D' (n' + r) j = gI D (n + r) j) (e4 : ∀ j : Nat, j < 3 → gI D' st' j = gI D st j) (e5 : ∀ j : Nat, j < 3 → gI D' fk' (f' + j) = gI D fk (f + j)) : aNow D' h' o' n' st' fk' f' T :=
  ⟨fun p hp => (e1 p (by omega)).trans (H.1 p hp), fun i hi => (e2 i hi).trans (H.2.1 i hi), fun r i hr hi => (e3 r i hr hi).trans (H.2.2.1 r i hr hi), fun i hi => (e4 i hi).trans (H.2.2.2.1 i hi), fun j hj => (e5 j hj).trans (H.2.2.2.2 j hj)⟩
theorem r4 {r : Nat} (h : r < 4) : r = 0 ∨ r = 1 ∨ r = 2 ∨ r = 3 := by omega
theorem j3 {r : Nat} (h : r < 3) : r = 0 ∨ r = 1 ∨ r = 2 := by omega
theorem c_keep {D : aD} {T : aT} (hP : T 0 4 ≤ 12) (H : CNow D T) : Ok (f_X9_copyFrom_48_40 D) (fun D' => aNow D' 49 50 51 55 48 2 T ∧ (∀ k j : Nat, ¬ (48 ≤ k ∧ k ≤ 55) → gI D' k j = gI D k j)) := by
  unfold f_X9_copyFrom_48_40
  simp (disch := omega) only [e_bi, e_bind, e_let, e_tr, e_tl, cLm1, cLm2, cL0, cL1, cL2, cL3, cL4, cL5, cL6, cL7, cL8, cL9, cL10, cL11, cL12, cL13, cL14, cL15, cL16, cL17, cL18, cL19, cL20, cL21, cL22, cL23, cL24, cL25, cL29, cL30, cL31, cL32, cL36, cL48, cL50, cL51, cL52, cL64, cL99, cL100, cL700, cL1000, cL9999, cL10000, cI_add, cI_sub, cI_mul, cI_neg, cI_lt, cI_le, cI_eq, ne_eq, ifp, ifn, bI_p, bI_n, aZ_0, aZ_1, aZ_b, e_gdt, e_ifT, e_ifF, not_true_eq_false, not_false_eq_true, e_gd, cg_c, ok_some]
  refine ⟨aNow.cpy hP H (fun j hj => ?_) (fun j hj => ?_) (fun r j hr hj => ?_) (fun j hj => ?_) (fun j hj => ?_), fun k j hk => ?_⟩
  · simp (disch := omega) only [cp_N, cp_E, gI_fr]
  · simp (disch := omega) only [cp_N, cp_E, gI_fr]
  · rcases r4 hr with rfl | rfl | rfl | rfl <;> simp (disch := omega) only [Nat.add_zero, Nat.reduceAdd, cp_N, cp_E, gI_fr]
  · simp (disch := omega) only [cp_N, cp_E, gI_fr]
  · rcases j3 hj with rfl | rfl | rfl <;> simp (disch := omega) only [Nat.add_zero, Nat.reduceAdd, cp_N, cp_E, gI_fr, gI_eq]
  · simp (disch := omega) only [cp_N, gI_fr]
theorem c_back {D : aD} {T : aT} (hP : T 0 4 ≤ 12) (H : aNow D 49 50 51 55 48 2 T) : Ok (f_X9_copyFrom_40_48 D) (fun D' => CNow D' T ∧ (∀ k j : Nat, ¬ (40 ≤ k ∧ k ≤ 47) → gI D' k j = gI D k j)) := by
  unfold f_X9_copyFrom_40_48
  simp (disch := omega) only [e_bi, e_bind, e_let, e_tr, e_tl, cLm1, cLm2, cL0, cL1, cL2, cL3, cL4, cL5, cL6, cL7, cL8, cL9, cL10, cL11, cL12, cL13, cL14, cL15, cL16, cL17, cL18, cL19, cL20, cL21, cL22, cL23, cL24, cL25, cL29, cL30, cL31, cL32, cL36, cL48, cL50, cL51, cL52, cL64, cL99, cL100, cL700, cL1000, cL9999, cL10000, cI_add, cI_sub, cI_mul, cI_neg, cI_lt, cI_le, cI_eq, ne_eq, ifp, ifn, bI_p, bI_n, aZ_0, aZ_1, aZ_b, e_gdt, e_ifT, e_ifF, not_true_eq_false, not_false_eq_true, e_gd, cg_c, ok_some]
  refine ⟨aNow.cpy hP H (fun j hj => ?_) (fun j hj => ?_) (fun r j hr hj => ?_) (fun j hj => ?_) (fun j hj => ?_), fun k j hk => ?_⟩
  · simp (disch := omega) only [cp_N, cp_E, gI_fr]
  · simp (disch := omega) only [cp_N, cp_E, gI_fr]
  · rcases r4 hr with rfl | rfl | rfl | rfl <;> simp (disch := omega) only [Nat.add_zero, Nat.reduceAdd, cp_N, cp_E, gI_fr]
  · simp (disch := omega) only [cp_N, cp_E, gI_fr]
  · rcases j3 hj with rfl | rfl | rfl <;> simp (disch := omega) only [Nat.add_zero, Nat.reduceAdd, cp_N, cp_E, gI_fr, gI_eq]
  · simp (disch := omega) only [cp_N, gI_fr]
/-- seven copies of the reference, one behind the other -/
theorem m_be7 {β : Type} {kk : aD → Option β} {D : aD} {T : aT} {h o n st fk f h' o' n' st' f' : Nat} {K : β → Prop} (hP : T 0 4 ≤ 12) (H : aNow D h o n st fk f T) (hd : h' ≠ h ∧ o' ≠ o ∧ st' ≠ st ∧ fk = 88 ∧ ((h' = 125 ∧ o' = 126 ∧ n' = 127 ∧ st' = 131 ∧ h = 106 ∧ o = 107 ∧ n = 118 ∧ st = 104) ∨ (h = 125 ∧ o = 126 ∧ n = 127 ∧ st = 131 ∧ h' = 106 ∧ o' = 107 ∧ n' = 118 ∧ st' = 104)))
    (hf : ∀ j : Nat, j < 3 → gI D 88 (f' + j) = gI D 88 (f + j)) (k : ∀ D' : aD, aNow D' h' o' n' st' 88 f' T → (∀ k j : Nat, ¬ (k = h' ∨ k = o' ∨ (n' ≤ k ∧ k < n' + 4) ∨ k = st') → gI D' k j = gI D k j) → D'.2 = D.2 → Ok (kk D') K) :
    Ok ((f_X12_be h' 13 h 13 D).bind (fun D_6 => (f_X12_be o' 5 o 5 D_6).bind (fun D_7 => (f_X12_be (n' + 0) 12 (n + 0) 12 D_7).bind (fun D_8 => (f_X12_be (n' + 1) 12 (n + 1) 12 D_8).bind (fun D_9 => (f_X12_be (n' + 2) 12 (n + 2) 12 D_9).bind (fun D_10 => (f_X12_be (n' + 3) 12 (n + 3) 12 D_10).bind (fun D_11 => (f_X12_be st' 3 st 3 D_11).bind kk))))))) K := by
  obtain ⟨d1, d2, d3, rfl, d4⟩ := hd
  refine ok_bindI ((be_ok d1 (by omega) (by omega)).mono fun D1 q1 => ok_bindI ((be_ok d2 (by omega) (by omega)).mono fun D2 q2 => ok_bindI ((be_ok (by omega) (by omega) (by omega)).mono fun D3 q3 => ok_bindI ((be_ok (by omega) (by omega) (by omega)).mono fun D4 q4 => ok_bindI ((be_ok (by omega) (by omega) (by omega)).mono fun D5 q5 => ok_bindI ((be_ok (by omega) (by omega) (by omega)).mono fun D6 q6 => ok_bindI ((be_ok d3 (by omega) (by omega)).mono fun D7 q7 => ?_)))))))
  refine k D7 (aNow.cpy hP H (fun j hj => ?_) (fun j hj => ?_) (fun r j hr hj => ?_) (fun j hj => ?_) (fun j hj => ?_)) (fun k j hk => ?_) (q7.2.2.trans (q6.2.2.trans (q5.2.2.trans (q4.2.2.trans (q3.2.2.trans (q2.2.2.trans q1.2.2))))))
  · rw [q7.2.1 _ _ (by omega), q6.2.1 _ _ (by omega), q5.2.1 _ _ (by omega), q4.2.1 _ _ (by omega), q3.2.1 _ _ (by omega), q2.2.1 _ _ (by omega), q1.1 j (by omega)]
  · rw [q7.2.1 _ _ (by omega), q6.2.1 _ _ (by omega), q5.2.1 _ _ (by omega), q4.2.1 _ _ (by omega), q3.2.1 _ _ (by omega), q2.1 j (by omega), q1.2.1 _ _ (by omega)]
  · rcases r4 hr with rfl | rfl | rfl | rfl
    · rw [q7.2.1 _ _ (by omega), q6.2.1 _ _ (by omega), q5.2.1 _ _ (by omega), q4.2.1 _ _ (by omega), q3.1 j (by omega), q2.2.1 _ _ (by omega), q1.2.1 _ _ (by omega)]
    · rw [q7.2.1 _ _ (by omega), q6.2.1 _ _ (by omega), q5.2.1 _ _ (by omega), q4.1 j (by omega), q3.2.1 _ _ (by omega), q2.2.1 _ _ (by omega), q1.2.1 _ _ (by omega)]
    · rw [q7.2.1 _ _ (by omega), q6.2.1 _ _ (by omega), q5.1 j (by omega), q4.2.1 _ _ (by omega), q3.2.1 _ _ (by omega), q2.2.1 _ _ (by omega), q1.2.1 _ _ (by omega)]
    · rw [q7.2.1 _ _ (by omega), q6.1 j (by omega), q5.2.1 _ _ (by omega), q4.2.1 _ _ (by omega), q3.2.1 _ _ (by omega), q2.2.1 _ _ (by omega), q1.2.1 _ _ (by omega)]
  · rw [q7.1 j (by omega), q6.2.1 _ _ (by omega), q5.2.1 _ _ (by omega), q4.2.1 _ _ (by omega), q3.2.1 _ _ (by omega), q2.2.1 _ _ (by omega), q1.2.1 _ _ (by omega)]
  · rw [q7.2.1 _ _ (by omega), q6.2.1 _ _ (by omega), q5.2.1 _ _ (by omega), q4.2.1 _ _ (by omega), q3.2.1 _ _ (by omega), q2.2.1 _ _ (by omega), q1.2.1 _ _ (by omega)]
    exact hf j hj
  · rw [q7.2.1 _ _ (by omega), q6.2.1 _ _ (by omega), q5.2.1 _ _ (by omega), q4.2.1 _ _ (by omega), q3.2.1 _ _ (by omega), q2.2.1 _ _ (by omega), q1.2.1 _ _ (by omega)]
theorem mixT_self (T : aT) : mixT T T = T := by
  funext k j
  unfold mixT
  split <;> rfl
theorem m_keep {D : aD} {T : aT} (hP : T 0 4 ≤ 12) (H : MNow D T) : Ok (f_X12_image D) (fun D' => aNow D' 125 126 127 131 88 56 T ∧ gI D' 88 55 = cI 1 ∧ (∀ k j : Nat, ¬ (125 ≤ k ∧ k ≤ 131) → ¬ (k = 88 ∧ (j = 2 ∨ 55 ≤ j ∧ j ≤ 58)) → gI D' k j = gI D k j)) := by
  unfold f_X12_image
  simp only [e_let, cL0, cL1]
  have H1 : MNow (pI (pI (pI (pI (pI D 88 2 (cI 0)) 88 55 (cI 1)) 88 56 (gI (pI (pI D 88 2 (cI 0)) 88 55 (cI 1)) 88 31)) 88 57 (gI (pI (pI (pI D 88 2 (cI 0)) 88 55 (cI 1)) 88 56 (gI (pI (pI D 88 2 (cI 0)) 88 55 (cI 1)) 88 31)) 88 32)) 88 58 (gI (pI (pI (pI (pI D 88 2 (cI 0)) 88 55 (cI 1)) 88 56 (gI (pI (pI D 88 2 (cI 0)) 88 55 (cI 1)) 88 31)) 88 57 (gI (pI (pI (pI D 88 2 (cI 0)) 88 55 (cI 1)) 88 56 (gI (pI (pI D 88 2 (cI 0)) 88 55 (cI 1)) 88 31)) 88 32)) 88 33)) T := by
    refine aNow.fr H (fun j => ?_) (fun j => ?_) (fun r j hr => ?_) (fun j => ?_) (fun j hj => ?_) <;> simp (disch := omega) only [gI_fr]
  refine m_be7 (n := 118) (n' := 127) (f' := 56) (T := T) hP H1 (by omega) (fun j hj => ?_) (fun D' h1 h2 h3 => ok_someI ⟨h1, ?_, fun k j a b => ?_⟩)
  · rcases j3 hj with rfl | rfl | rfl <;> simp (disch := omega) only [Nat.add_zero, Nat.reduceAdd, gI_fr, gI_eq]
  · rw [h2 _ _ (by omega)]
    simp (disch := omega) only [gI_fr, gI_eq]
  · rw [h2 _ _ (by omega)]
    simp (disch := omega) only [gI_fr]
theorem m_back {D : aD} {T : aT} (hP : T 0 4 ≤ 12) (H : aNow D 125 126 127 131 88 56 T) (hk : gI D 88 55 = cI 1) : Ok (f_X12_restore D) (fun r => r.1 = cI 1 ∧ MNow r.2 T ∧ (∀ k j : Nat, ¬ (k = 104 ∨ k = 106 ∨ k = 107 ∨ (118 ≤ k ∧ k ≤ 121)) → ¬ (k = 88 ∧ (j = 2 ∨ 31 ≤ j ∧ j ≤ 33)) → gI r.2 k j = gI D k j)) := by
  unfold f_X12_restore
  have e1 : ¬ (cI 1 = cI 0) := by decide
  simp (disch := omega) only [e_bi, e_bind, e_let, e_tr, e_tl, cLm1, cLm2, cL0, cL1, cL2, cL3, cL4, cL5, cL6, cL7, cL8, cL9, cL10, cL11, cL12, cL13, cL14, cL15, cL16, cL17, cL18, cL19, cL20, cL21, cL22, cL23, cL24, cL25, cL29, cL30, cL31, cL32, cL36, cL48, cL50, cL51, cL52, cL64, cL99, cL100, cL700, cL1000, cL9999, cL10000, cI_add, cI_sub, cI_mul, cI_neg, cI_lt, cI_le, cI_eq, ne_eq, ifp, ifn, bI_p, bI_n, aZ_0, aZ_1, aZ_b, e_gdt, e_ifT, e_ifF, not_true_eq_false, not_false_eq_true, e_gd, gI_fr, hk]
  have H1 : aNow (pI (pI (pI (pI D 88 2 (cI 0)) 88 31 (gI D 88 56)) 88 32 (gI D 88 57)) 88 33 (gI D 88 58)) 125 126 127 131 88 56 T := by
    refine aNow.fr H (fun j => ?_) (fun j => ?_) (fun r j hr => ?_) (fun j => ?_) (fun j hj => ?_) <;> simp (disch := omega) only [gI_fr]
  refine m_be7 (n := 127) (n' := 118) (f' := 31) (T := T) hP H1 (by omega) (fun j hj => ?_) (fun D' h1 h2 h3 => ok_someI ⟨rfl, h1, fun k j a b => ?_⟩)
  · rcases j3 hj with rfl | rfl | rfl <;> simp (disch := omega) only [Nat.add_zero, Nat.reduceAdd, gI_fr, gI_eq]
  · show gI D' k j = gI D k j
    rw [h2 _ _ (by omega)]
    simp (disch := omega) only [gI_fr]
theorem step_25 {D : aD} {v1 v2 v3 v4 v5 : Int32} (h : lawP D) : Ok2 (f_law_25 v1 v2 v3 v4 v5 D) (fun r D => r = 1 ∧ lawP D) := by
  obtain ⟨T, K, L, B, H⟩ := h
  have ⟨hp, hn, hC, hN, hM, hR, hK, hT, hF, hO⟩ := H
  have hP : T 0 4 ≤ 12 := hp.1.2.2.2.2.2.2.2.2.2.2.2.1
  unfold f_law_25
  rw [ok_2]
  refine ok_bindI ?_
  unfold f_X11_image
  refine ok_bindI ((c_keep hP hN).mono fun D1 q => ?_)
  simp only [e_let, cL1, ok_some]
  obtain ⟨q1, q2⟩ := q
  have hR1 : MNow (pI D1 0 7 (cI 1)) T := by
    refine aNow.fr hR (fun j => ?_) (fun j => ?_) (fun r j hr => ?_) (fun j => ?_) (fun j hj => ?_) <;>
    (rw [gI_fr (by omega)]; exact q2 _ _ (by omega))
  refine ok_bindI ((m_keep hP hR1).mono fun D2 p => ok_someI ⟨rfl, T, T, L, B, ?_⟩)
  obtain ⟨p1, p2, p3⟩ := p
  have e : ∀ k j : Nat, ¬ (48 ≤ k ∧ k ≤ 55) → ¬ (k = 0 ∧ j = 7) → ¬ (125 ≤ k ∧ k ≤ 131) → ¬ (k = 88 ∧ (j = 2 ∨ 55 ≤ j ∧ j ≤ 58)) → gI D2 k j = gI D k j := fun k j a b c d => by
    rw [p3 k j c d, gI_fr (by omega)]; exact q2 k j a
  refine ⟨hp, hn, hC.fr hp (fun k j a => e _ j (by omega) (by omega) (by omega) (by omega)), aNow.fr hN (fun j => e _ j (by omega) (by omega) (by omega) (by omega)) (fun j => e _ j (by omega) (by omega) (by omega) (by omega)) (fun r j hr => e _ j (by omega) (by omega) (by omega) (by omega)) (fun j => e _ j (by omega) (by omega) (by omega) (by omega)) (fun j hj => e _ _ (by omega) (by omega) (by omega) (by omega)), hM.fr (fun k j a b => e _ j (by omega) (by omega) (by omega) (by omega)) (e _ _ (by omega) (by omega) (by omega) (by omega)), aNow.fr hR (fun j => e _ j (by omega) (by omega) (by omega) (by omega)) (fun j => e _ j (by omega) (by omega) (by omega) (by omega)) (fun r j hr => e _ j (by omega) (by omega) (by omega) (by omega)) (fun j => e _ j (by omega) (by omega) (by omega) (by omega)) (fun j hj => e _ _ (by omega) (by omega) (by omega) (by omega)), ?_, hT.fr (fun k j a => e _ j (by omega) (by omega) (by omega) (by omega)), ?_, hO.fr (fun k j a => e k j (by omega) (by omega) (by omega) (by omega))⟩
  · refine Or.inr ⟨?_, p2, by rw [mixT_self]; exact hn, by rw [mixT_self]; refine aNow.fr q1 (fun j => ?_) (fun j => ?_) (fun r j hr => ?_) (fun j => ?_) (fun j hj => ?_) <;> (rw [p3 _ _ (by omega) (by omega)]; exact gI_fr (by omega)), by rw [mixT_self]; exact p1⟩
    rw [p3 _ _ (by omega) (by omega)]
    exact gI_eq
  · rw [e 0 2 (by omega) (by omega) (by omega) (by omega), e 88 27 (by omega) (by omega) (by omega) (by omega)]
    exact hF
theorem step_26 {D : aD} {v1 v2 v3 v4 v5 : Int32} (h : lawP D) : Ok2 (f_law_26 v1 v2 v3 v4 v5 D) (fun r D => r = 1 ∧ lawP D) := by
  obtain ⟨T, K, L, B, H⟩ := h
  have ⟨hp, hn, hC, hN, hM, hR, hK, hT, hF, hO⟩ := H
  have hP : T 0 4 ≤ 12 := hp.1.2.2.2.2.2.2.2.2.2.2.2.1
  unfold f_law_26
  rcases hK with ⟨k1, k2⟩ | ⟨k1, k2, k3, k4, k5⟩
  · refine eq_step (fc := f_X11_restore D) (fm := fun D => f_X12_restore D) (P := lawP) (C := fun D' => D' = D) (cI 0) ?_ ?_
    · unfold f_X11_restore
      simp (disch := omega) only [e_bi, e_bind, e_let, e_tr, e_tl, cLm1, cLm2, cL0, cL1, cL2, cL3, cL4, cL5, cL6, cL7, cL8, cL9, cL10, cL11, cL12, cL13, cL14, cL15, cL16, cL17, cL18, cL19, cL20, cL21, cL22, cL23, cL24, cL25, cL29, cL30, cL31, cL32, cL36, cL48, cL50, cL51, cL52, cL64, cL99, cL100, cL700, cL1000, cL9999, cL10000, cI_add, cI_sub, cI_mul, cI_neg, cI_lt, cI_le, cI_eq, ne_eq, ifp, ifn, bI_p, bI_n, aZ_0, aZ_1, aZ_b, e_gdt, e_ifT, e_ifF, not_true_eq_false, not_false_eq_true, e_gd, k1, ok_some, and_self]
    · rintro D' rfl
      unfold f_X12_restore
      simp (disch := omega) only [e_bi, e_bind, e_let, e_tr, e_tl, cLm1, cLm2, cL0, cL1, cL2, cL3, cL4, cL5, cL6, cL7, cL8, cL9, cL10, cL11, cL12, cL13, cL14, cL15, cL16, cL17, cL18, cL19, cL20, cL21, cL22, cL23, cL24, cL25, cL29, cL30, cL31, cL32, cL36, cL48, cL50, cL51, cL52, cL64, cL99, cL100, cL700, cL1000, cL9999, cL10000, cI_add, cI_sub, cI_mul, cI_neg, cI_lt, cI_le, cI_eq, ne_eq, ifp, ifn, bI_p, bI_n, aZ_0, aZ_1, aZ_b, e_gdt, e_ifT, e_ifF, not_true_eq_false, not_false_eq_true, e_gd, gI_fr, k2, ok_some]
      exact ⟨trivial, T, K, L, B, H.fr (fun k j _ b => fr_code k j b)⟩
  · have hm : (mixT T K) 0 4 ≤ 12 := hP
    refine eq_step (fc := f_X11_restore D) (fm := fun D => f_X12_restore D) (P := lawP) (C := fun D' => CNow D' (mixT T K) ∧ (∀ k j : Nat, ¬ (40 ≤ k ∧ k ≤ 47) → gI D' k j = gI D k j)) (cI 1) ?_ ?_
    · unfold f_X11_restore
      simp (disch := omega) only [e_bi, e_bind, e_let, e_tr, e_tl, cLm1, cLm2, cL0, cL1, cL2, cL3, cL4, cL5, cL6, cL7, cL8, cL9, cL10, cL11, cL12, cL13, cL14, cL15, cL16, cL17, cL18, cL19, cL20, cL21, cL22, cL23, cL24, cL25, cL29, cL30, cL31, cL32, cL36, cL48, cL50, cL51, cL52, cL64, cL99, cL100, cL700, cL1000, cL9999, cL10000, cI_add, cI_sub, cI_mul, cI_neg, cI_lt, cI_le, cI_eq, ne_eq, ifp, ifn, bI_p, bI_n, aZ_0, aZ_1, aZ_b, e_gdt, e_ifT, e_ifF, not_true_eq_false, not_false_eq_true, e_gd, k1]
      exact ok_bindI ((c_back hm k4).mono fun D1 q => ok_someI ⟨rfl, q⟩)
    · rintro D' ⟨q1, q2⟩
      have h5 : aNow D' 125 126 127 131 88 56 (mixT T K) := aNow.fr k5 (fun j => q2 _ _ (by omega)) (fun j => q2 _ _ (by omega)) (fun r j hr => q2 _ _ (by omega)) (fun j => q2 _ _ (by omega)) (fun j hj => q2 _ _ (by omega))
      refine (m_back hm h5 ((q2 _ _ (by omega)).trans k2)).mono fun r p => ⟨p.1, mixT T K, K, L, B, ?_⟩
      obtain ⟨p0, p1, p2⟩ := p
      refine H.nw (fun k hk => funext fun j => ?_) k3 ?_ p1 (fun k j x1 x2 x3 => ?_)
      · unfold mixT
        rw [if_pos hk]
      · refine aNow.fr q1 (fun j => ?_) (fun j => ?_) (fun r j hr => ?_) (fun j => ?_) (fun j hj => ?_) <;> exact p2 _ _ (by omega) (by omega)
      · unfold mScr at x2
        unfold nowC at x3
        rw [p2 k j (by omega) (by omega)]
        exact q2 k j (by omega)
end CPY
