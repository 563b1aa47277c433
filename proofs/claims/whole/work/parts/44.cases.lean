/-! cases: collected on both sides -/
section CAT
theorem ks_of {T : aT} {i n : Nat} (h : n < clN T) : ksN T (1 + clN T * i + n) = i ∧ kcN T (1 + clN T * i + n) = n := by
  unfold ksN kcN
  rw [show 1 + clN T * i + n - 1 = n + clN T * i by omega]
  refine ⟨?_, ?_⟩
  · rw [Nat.add_mul_div_left _ _ (by omega), Nat.div_eq_of_lt h, Nat.zero_add]
  · rw [Nat.add_mul_mod_self_left, Nat.mod_eq_of_lt h]
theorem collectBy_ok {D : aD} {T : aT} {w : Nat} (hp : TOKp T) (hn : TOKn T) (hC : CP D 2 T) (hN : CNow D T) (hw : w < 5) (hF : FD D T (csN T w)) :
    Ok (f_X10_collectBy (cI (w : Int)) D) (fun D' => FD D' T (csN T w ++ cfN T w (mxK T)) ∧ ∀ k j : Nat, ¬ (57 ≤ k ∧ k < 88) → gI D' k j = gI D k j) := by
  have hq := hp.1
  have hq2 := hn.1
  have cl : ((clN T : Nat) : Int) = T 0 0 * T 0 1 := by unfold clN; omega
  have mk := mxK_b (T := T) (by omega) (by omega)
  have ll := cs_len (T := T) w
  have ll2 : w * mxK T ≤ 4 * mxK T := Nat.mul_le_mul (by omega) (Nat.le_refl _)
  have mx : mxK T = 1 + clN T * (T 0 2).toNat := rfl
  unfold f_X10_collectBy J_X10_collectBy_2
  refine ok_bindI (ok_lp (fun i t => t.1 = cI (i : Int) ∧ seN t.2 T w i ∧ ∀ k j : Nat, k ≠ 58 → k ≠ 59 → k ≠ 81 → gI t.2 k j = gI D k j) (T 15 2).toNat (by omega) ⟨rfl, fun i j h => absurd h (by omega), fun _ _ _ _ _ => rfl⟩ ?_)
  rintro i ⟨x, D1⟩ hi ⟨rfl, g1, g2⟩
  show Ok (B_X10_collectBy_2 (cI (w : Int)) (cI (i : Int)) D1) _
  obtain ⟨hC1, hN1⟩ := cF hp hC hN (D' := D1) (fun k j hk => g2 k j (by omega) (by omega) (by omega))
  obtain ⟨-, -, r16, r17, -, -, -, -, -, r152⟩ := CNow.two hN1
  obtain ⟨-, -, -, -, -, -, -, -, q11, -⟩ := CP.two hC1
  have e : ((i : Int)).toNat = i := by omega
  unfold B_X10_collectBy_2
  by_cases c : (i : Int) < T 15 2
  · have nb := nose_b hp hn c
    have a16 := r16 i (by omega)
    have a17 := r17 i (by omega)
    have a11 : gI D1 11 (T 16 i).toNat = cI (ngN T i) := q11 (T 16 i).toNat (by omega)
    simp (disch := omega) only [e_bi, e_bind, e_let, e_tr, e_tl, cLm1, cLm2, cL0, cL1, cL2, cL3, cL4, cL5, cL6, cL7, cL8, cL9, cL10, cL11, cL12, cL13, cL14, cL15, cL16, cL17, cL18, cL19, cL20, cL21, cL22, cL23, cL24, cL25, cL29, cL30, cL31, cL32, cL36, cL48, cL50, cL51, cL52, cL64, cL99, cL100, cL700, cL1000, cL9999, cL10000, cI_add, cI_sub, cI_mul, cI_neg, cI_lt, cI_le, cI_eq, ne_eq, ifp, ifn, bI_p, bI_n, aZ_0, aZ_1, aZ_b, e_gdt, e_ifT, e_ifF, not_true_eq_false, not_false_eq_true, e_gd, r152, cI_inT, cI_nat, e, a16, a17, a11]
    refine ok_bindI ((fillB_ok hp hn hC1 hN1 nb.1 nb.2.1 nb.2.2.1 nb.2.2.2.1 (by omega) (by omega)).mono fun D2 q => ?_)
    rw [save_eq (by omega), e_bind]
    refine ok_someI (Or.inl ⟨_, rfl, by omega, rfl, fun m j hm hj => ?_, fun k j a b d => ?_⟩)
    · show gI (aCp D2 58 81 (cI 0) (cI ((i : Int) * 6)) (cI 6)) 81 (m * 6 + j) = _
      rw [gI_cp (by omega) (by omega) (by omega) (by omega) (by omega) (by omega)]
      by_cases y : m = i
      · subst y
        rw [if_pos ⟨rfl, by omega, by omega⟩, show (0 : Int).toNat + (m * 6 + j - ((m : Int) * 6).toNat) = j by omega]
        exact q.1.1 j hj
      · rw [if_neg (by omega), q.2 _ _ (by omega) (by omega)]
        exact g1 m j (by omega) hj
    · show gI (aCp D2 58 81 (cI 0) (cI ((i : Int) * 6)) (cI 6)) k j = _
      rw [cp_N d, q.2 k j a b]
      exact g2 k j a b d
  · simp (disch := omega) only [e_bi, e_bind, e_let, e_tr, e_tl, cLm1, cLm2, cL0, cL1, cL2, cL3, cL4, cL5, cL6, cL7, cL8, cL9, cL10, cL11, cL12, cL13, cL14, cL15, cL16, cL17, cL18, cL19, cL20, cL21, cL22, cL23, cL24, cL25, cL29, cL30, cL31, cL32, cL36, cL48, cL50, cL51, cL52, cL64, cL99, cL100, cL700, cL1000, cL9999, cL10000, cI_add, cI_sub, cI_mul, cI_neg, cI_lt, cI_le, cI_eq, ne_eq, ifp, ifn, bI_p, bI_n, aZ_0, aZ_1, aZ_b, e_gdt, e_ifT, e_ifF, not_true_eq_false, not_false_eq_true, e_gd, r152]
    obtain rfl : i = (T 15 2).toNat := by omega
    refine ok_someI (Or.inr ⟨_, rfl, ?_⟩)
    have hF1 : FD D1 T (csN T w) := ⟨(g2 _ _ (by omega) (by omega) (by omega)).trans hF.1, fun i q h => (g2 _ _ (by omega) (by omega) (by omega)).trans (hF.2 i q h)⟩
    unfold J_X10_collectBy_67
    have t0 := tryC_ok (k := 0) hp hn hC1 hN1 hw (by omega) g1 hF1 (by omega)
    rw [if_pos rfl, if_pos rfl] at t0
    refine ok_bindI (Ok.mono (show Ok (f_X10_tryCase (cI (w : Int)) (-1) 0 D1) _ from t0) fun D2 q => ?_)
    obtain ⟨f1, f2⟩ := q
    have c1 : csN T w ++ (if ftN T w 0 = true then [(w, 0)] else []) = csN T w ++ cfN T w (1 + clN T * 0) := by
      rw [Nat.mul_zero, Nat.add_zero]
      show _ = csN T w ++ (cfN T w 0 ++ if caN T 0 && ftN T w 0 then [(w, 0)] else [])
      rw [show caN T 0 = true from rfl, Bool.true_and]
      simp [cfN]
    rw [c1] at f1
    unfold J_X10_collectBy_76
    refine ok_bindI (ok_lp (fun i t => t.1 = cI (i : Int) ∧ FD t.2 T (csN T w ++ cfN T w (1 + clN T * i)) ∧ ∀ k j : Nat, k ≠ 58 → k ≠ 80 → ¬ (k = 79 ∧ j = 4) → gI t.2 k j = gI D1 k j) (T 0 2).toNat (by omega) ⟨rfl, f1, f2⟩ ?_)
    rintro i ⟨x, D3⟩ hi ⟨rfl, h1, h2⟩
    show Ok (B_X10_collectBy_76 (cI (w : Int)) (cI (i : Int)) D3) _
    have hC3 : CP D3 2 T := hC1.fr hp (fun k j hk => h2 _ j (by omega) (by omega) (by omega))
    obtain ⟨-, -, p3, -⟩ := CP.two hC3
    unfold B_X10_collectBy_76
    by_cases d : (i : Int) < T 0 2
    · have ik : clN T * (i + 1) ≤ clN T * (T 0 2).toNat := Nat.mul_le_mul (Nat.le_refl _) (by omega)
      rw [Nat.mul_add, Nat.mul_one] at ik
      simp (disch := omega) only [e_bi, e_bind, e_let, e_tr, e_tl, cLm1, cLm2, cL0, cL1, cL2, cL3, cL4, cL5, cL6, cL7, cL8, cL9, cL10, cL11, cL12, cL13, cL14, cL15, cL16, cL17, cL18, cL19, cL20, cL21, cL22, cL23, cL24, cL25, cL29, cL30, cL31, cL32, cL36, cL48, cL50, cL51, cL52, cL64, cL99, cL100, cL700, cL1000, cL9999, cL10000, cI_add, cI_sub, cI_mul, cI_neg, cI_lt, cI_le, cI_eq, ne_eq, ifp, ifn, bI_p, bI_n, aZ_0, aZ_1, aZ_b, e_gdt, e_ifT, e_ifF, not_true_eq_false, not_false_eq_true, e_gd, p3]
      unfold J_X10_collectBy_89
      refine ok_bindI (ok_lp (fun n t => t.1 = cI (n : Int) ∧ FD t.2 T (csN T w ++ cfN T w (1 + clN T * i + n)) ∧ ∀ k j : Nat, k ≠ 58 → k ≠ 80 → ¬ (k = 79 ∧ j = 4) → gI t.2 k j = gI D1 k j) (clN T) (by omega) ⟨rfl, h1, h2⟩ ?_)
      rintro n ⟨x, D4⟩ hn' ⟨rfl, m1, m2⟩
      show Ok (B_X10_collectBy_89 (cI (w : Int)) (cI (i : Int)) (cI (n : Int)) D4) _
      obtain ⟨hC4, hN4⟩ := cF hp hC1 hN1 (D' := D4) (fun k j hk => m2 k j (by omega) (by omega) (by omega))
      have ck : gI D4 3 0 = cI (T 0 0) ∧ gI D4 3 1 = cI (T 0 1) := ⟨(CP.two hC4).1, (CP.two hC4).2.1⟩
      unfold B_X10_collectBy_89 f_X4_cells
      by_cases y : n < clN T
      · have tk : gI D4 6 n = cI (if takenN T n then 1 else 0) := hC4.2.2.2.2.2.2.2.2.2.2 n (by omega)
        have en : ((n : Int)).toNat = n := by omega
        obtain ⟨ks, kc⟩ := ks_of (T := T) (i := i) y
        have k0 : (1 + clN T * i + n == 0) = false := beq_eq_false_iff_ne.mpr (by omega)
        have st : cfN T w (1 + clN T * i + (n + 1)) = cfN T w (1 + clN T * i + n) ++ if caN T (1 + clN T * i + n) && ftN T w (1 + clN T * i + n) then [(w, 1 + clN T * i + n)] else [] := rfl
        have ca : caN T (1 + clN T * i + n) = !(takenN T n) := by unfold caN; rw [kc, k0, Bool.false_or]
        rw [ca] at st
        by_cases t : takenN T n = true
        · rw [t] at st tk
          rw [if_pos rfl] at tk
          simp (disch := omega) only [e_bi, e_bind, e_let, e_tr, e_tl, cLm1, cLm2, cL0, cL1, cL2, cL3, cL4, cL5, cL6, cL7, cL8, cL9, cL10, cL11, cL12, cL13, cL14, cL15, cL16, cL17, cL18, cL19, cL20, cL21, cL22, cL23, cL24, cL25, cL29, cL30, cL31, cL32, cL36, cL48, cL50, cL51, cL52, cL64, cL99, cL100, cL700, cL1000, cL9999, cL10000, cI_add, cI_sub, cI_mul, cI_neg, cI_lt, cI_le, cI_eq, ne_eq, ifp, ifn, bI_p, bI_n, aZ_0, aZ_1, aZ_b, e_gdt, e_ifT, e_ifF, not_true_eq_false, not_false_eq_true, e_gd, ck.1, ck.2, cI_inT, cI_nat, en, tk]
          refine ok_someI (Or.inl ⟨_, rfl, y, rfl, ?_, m2⟩)
          rw [st]
          simpa using m1
        · have tf : takenN T n = false := by simpa using t
          rw [tf] at st tk
          rw [if_neg (by decide)] at tk
          simp (disch := omega) only [e_bi, e_bind, e_let, e_tr, e_tl, cLm1, cLm2, cL0, cL1, cL2, cL3, cL4, cL5, cL6, cL7, cL8, cL9, cL10, cL11, cL12, cL13, cL14, cL15, cL16, cL17, cL18, cL19, cL20, cL21, cL22, cL23, cL24, cL25, cL29, cL30, cL31, cL32, cL36, cL48, cL50, cL51, cL52, cL64, cL99, cL100, cL700, cL1000, cL9999, cL10000, cI_add, cI_sub, cI_mul, cI_neg, cI_lt, cI_le, cI_eq, ne_eq, ifp, ifn, bI_p, bI_n, aZ_0, aZ_1, aZ_b, e_gdt, e_ifT, e_ifF, not_true_eq_false, not_false_eq_true, e_gd, ck.1, ck.2, cI_inT, cI_nat, en, tk]
          have lc := cf_len (T := T) (w := w) (1 + clN T * i + n)
          have tr := tryC_ok (k := 1 + clN T * i + n) hp hn hC4 hN4 hw (by omega) (fun a j ha hj => (m2 _ _ (by omega) (by omega) (by omega)).trans (g1 a j ha hj)) m1 (by rw [List.length_append]; omega)
          rw [if_neg (by omega), if_neg (by omega), ks, kc] at tr
          refine ok_bindI (tr.mono fun D5 q => ok_someI (Or.inl ⟨_, rfl, y, rfl, ?_, fun k j a b z => (q.2 k j a b z).trans (m2 k j a b z)⟩))
          rw [st]
          have q1 := q.1
          rw [List.append_assoc] at q1
          simpa using q1
      · obtain rfl : n = clN T := by omega
        simp (disch := omega) only [e_bi, e_bind, e_let, e_tr, e_tl, cLm1, cLm2, cL0, cL1, cL2, cL3, cL4, cL5, cL6, cL7, cL8, cL9, cL10, cL11, cL12, cL13, cL14, cL15, cL16, cL17, cL18, cL19, cL20, cL21, cL22, cL23, cL24, cL25, cL29, cL30, cL31, cL32, cL36, cL48, cL50, cL51, cL52, cL64, cL99, cL100, cL700, cL1000, cL9999, cL10000, cI_add, cI_sub, cI_mul, cI_neg, cI_lt, cI_le, cI_eq, ne_eq, ifp, ifn, bI_p, bI_n, aZ_0, aZ_1, aZ_b, e_gdt, e_ifT, e_ifF, not_true_eq_false, not_false_eq_true, e_gd, ck.1, ck.2]
        refine ok_someI (Or.inr ⟨_, rfl, ?_⟩)
        unfold J_X10_collectBy_131
        simp only [cL1, e_let, cI_add]
        refine ok_someI (Or.inl ⟨_, rfl, by omega, rfl, ?_, m2⟩)
        rw [Nat.mul_add, Nat.mul_one, ← Nat.add_assoc]
        exact m1
    · simp (disch := omega) only [e_bi, e_bind, e_let, e_tr, e_tl, cLm1, cLm2, cL0, cL1, cL2, cL3, cL4, cL5, cL6, cL7, cL8, cL9, cL10, cL11, cL12, cL13, cL14, cL15, cL16, cL17, cL18, cL19, cL20, cL21, cL22, cL23, cL24, cL25, cL29, cL30, cL31, cL32, cL36, cL48, cL50, cL51, cL52, cL64, cL99, cL100, cL700, cL1000, cL9999, cL10000, cI_add, cI_sub, cI_mul, cI_neg, cI_lt, cI_le, cI_eq, ne_eq, ifp, ifn, bI_p, bI_n, aZ_0, aZ_1, aZ_b, e_gdt, e_ifT, e_ifF, not_true_eq_false, not_false_eq_true, e_gd, p3]
      obtain rfl : i = (T 0 2).toNat := by omega
      refine ok_someI (Or.inr ⟨_, rfl, ok_someI ⟨h1, fun k j a => (h2 k j (by omega) (by omega) (by omega)).trans (g2 k j (by omega) (by omega) (by omega))⟩⟩)
theorem collect_ok {D : aD} {T : aT} (hp : TOKp T) (hn : TOKn T) (hC : CP D 2 T) (hN : CNow D T) :
    Ok (f_X10_collect D) (fun D' => FD D' T (csN T 5) ∧ ∀ k j : Nat, ¬ (57 ≤ k ∧ k < 88) → gI D' k j = gI D k j) := by
  unfold f_X10_collect J_X10_collect_7
  rw [e_let]
  refine ok_bindI (ok_lp (fun i t => t.1 = cI (i : Int) ∧ FD t.2 T (csN T i) ∧ ∀ k j : Nat, ¬ (57 ≤ k ∧ k < 88) → gI t.2 k j = gI D k j) 5 (by omega) ⟨rfl, ⟨gI_eq, fun i q h => by simp [csN] at h⟩, fun k j a => gI_fr (by omega)⟩ ?_)
  rintro i ⟨x, D1⟩ hi ⟨rfl, g1, g2⟩
  show Ok (B_X10_collect_7 (cI (i : Int)) D1) _
  obtain ⟨hC1, hN1⟩ := cF hp hC hN (D' := D1) (fun k j hk => g2 k j (by omega))
  obtain ⟨-, -, -, q4, -⟩ := CP.two hC1
  have e : ((i : Int)).toNat = i := by omega
  unfold B_X10_collect_7
  by_cases c : i < 5
  · have q := q4 i c
    have a := hp.2.1 i c
    have st : csN T (i + 1) = csN T i ++ if 0 < T 0 (10 + i) then cfN T i (mxK T) else [] := rfl
    by_cases d : 0 < T 0 (10 + i)
    · rw [if_pos d] at st
      simp (disch := omega) only [e_bi, e_bind, e_let, e_tr, e_tl, cLm1, cLm2, cL0, cL1, cL2, cL3, cL4, cL5, cL6, cL7, cL8, cL9, cL10, cL11, cL12, cL13, cL14, cL15, cL16, cL17, cL18, cL19, cL20, cL21, cL22, cL23, cL24, cL25, cL29, cL30, cL31, cL32, cL36, cL48, cL50, cL51, cL52, cL64, cL99, cL100, cL700, cL1000, cL9999, cL10000, cI_add, cI_sub, cI_mul, cI_neg, cI_lt, cI_le, cI_eq, ne_eq, ifp, ifn, bI_p, bI_n, aZ_0, aZ_1, aZ_b, e_gdt, e_ifT, e_ifF, not_true_eq_false, not_false_eq_true, e_gd, cI_inT, cI_nat, e, q]
      refine ok_bindI ((collectBy_ok hp hn hC1 hN1 c g1).mono fun D2 k => ok_someI (Or.inl ⟨_, rfl, c, rfl, ?_, fun k' j a => (k.2 k' j a).trans (g2 k' j a)⟩))
      rw [st]; exact k.1
    · rw [if_neg d, List.append_nil] at st
      simp (disch := omega) only [e_bi, e_bind, e_let, e_tr, e_tl, cLm1, cLm2, cL0, cL1, cL2, cL3, cL4, cL5, cL6, cL7, cL8, cL9, cL10, cL11, cL12, cL13, cL14, cL15, cL16, cL17, cL18, cL19, cL20, cL21, cL22, cL23, cL24, cL25, cL29, cL30, cL31, cL32, cL36, cL48, cL50, cL51, cL52, cL64, cL99, cL100, cL700, cL1000, cL9999, cL10000, cI_add, cI_sub, cI_mul, cI_neg, cI_lt, cI_le, cI_eq, ne_eq, ifp, ifn, bI_p, bI_n, aZ_0, aZ_1, aZ_b, e_gdt, e_ifT, e_ifF, not_true_eq_false, not_false_eq_true, e_gd, cI_inT, cI_nat, e, q]
      refine ok_someI (Or.inl ⟨_, rfl, c, rfl, ?_, g2⟩)
      rw [st]; exact g1
  · obtain rfl : i = 5 := by omega
    simp (disch := omega) only [e_bi, e_bind, e_let, e_tr, e_tl, cLm1, cLm2, cL0, cL1, cL2, cL3, cL4, cL5, cL6, cL7, cL8, cL9, cL10, cL11, cL12, cL13, cL14, cL15, cL16, cL17, cL18, cL19, cL20, cL21, cL22, cL23, cL24, cL25, cL29, cL30, cL31, cL32, cL36, cL48, cL50, cL51, cL52, cL64, cL99, cL100, cL700, cL1000, cL9999, cL10000, cI_add, cI_sub, cI_mul, cI_neg, cI_lt, cI_le, cI_eq, ne_eq, ifp, ifn, bI_p, bI_n, aZ_0, aZ_1, aZ_b, e_gdt, e_ifT, e_ifF, not_true_eq_false, not_false_eq_true, e_gd]
    exact ok_someI (Or.inr ⟨_, rfl, ok_someI ⟨g1, g2⟩⟩)
/-- the reference's list -/
def MD (D : aD) (l : List (Nat × Nat)) : Prop := gI D 88 52 = cI (l.length : Int) ∧ ∀ (i : Nat) (q : Nat × Nat), l[i]? = some q → gI D 122 i = cI (1000 * (q.1 : Int) + (q.2 : Int))
theorem sm_pl {T : aT} {s c g cell h w : Int} {p : Nat} (hp : p ≠ (T 0 4).toNat) : smN (plT T s c g) p cell h w = smN T p cell h w := by
  have sc := pl_scn (T := T) (s := s) (c := c) (g := g)
  unfold smN
  rw [pl_o (by omega) (Or.inl hp), pl_o (by omega) (Or.inl hp), pl_o (by omega) (Or.inl hp), sc_cg sc, sc.2.2.2.2.2]
theorem raw_pl {T : aT} {s c g cell h w : Int} {j : Nat} (hP : 0 ≤ T 0 4) : rawN (plT T s c g) cell h w j = rawN T cell h w j + if s = (j : Int) then scN T s 1 c cell (T 15 1) h w else 0 := by
  have sc := pl_scn (T := T) (s := s) (c := c) (g := g)
  unfold rawN acR
  rw [pl_04, show (T 0 4 + 1).toNat = (T 0 4).toNat + 1 by omega, sgN]
  congr 1
  · exact sg_cg _ (fun p hp => by
      show (if plT T s c g 8 p = (j : Int) then smN (plT T s c g) p cell h w else 0) = (if T 8 p = (j : Int) then smN T p cell h w else 0)
      rw [sm_pl (by omega), pl_o (by omega) (Or.inl (by omega))])
  · show (if plT T s c g 8 (T 0 4).toNat = (j : Int) then smN (plT T s c g) (T 0 4).toNat cell h w else 0) = _
    unfold smN
    rw [pl_8, pl_9, pl_13, if_neg (show ¬ (0 : Int) = 1 by omega), if_neg (show ¬ (0 : Int) = 2 by omega), sc_cg sc, sc.2.2.2.2.2]
theorem mk_cg {T T' : aT} {R R' : Nat → Int} {s : Nat} (h : scn T T') (hS : T 0 2 ≤ 6) (hs : s < 6) (hR : ∀ j : Nat, j < 6 → R' j = R j) : mkN T' R' s = mkN T R s := by
  unfold mkN
  rw [hR s hs, h.1 2 (by omega)]
  congr 2
  exact sg_cg _ (fun m hm => by unfold maN; rw [h.2.2.2.1, hR m (by omega)])
theorem nt_cg {T T' : aT} {v : Int} (h : scn T T') : ntN T' v = ntN T v := by
  unfold ntN
  rw [h.1 9 (by omega)]
def noS (D : aD) (T : aT) : Prop := gI D 88 33 = cI (T 15 2) ∧ ∀ i : Nat, (i : Int) < T 15 2 → gI D 118 i = cI (T 16 i) ∧ gI D 119 i = cI (T 17 i) ∧ gI D 120 i = cI (T 18 i) ∧ gI D 121 i = cI (T 19 i)
theorem noS.fr {D D' : aD} {T : aT} (h : noS D T) (e : ∀ k j : Nat, (118 ≤ k ∧ k ≤ 121) ∨ (k = 88 ∧ j = 33) → gI D' k j = gI D k j) : noS D' T :=
  ⟨(e _ _ (by omega)).trans h.1, fun i hi => ⟨(e _ _ (by omega)).trans (h.2 i hi).1, (e _ _ (by omega)).trans (h.2 i hi).2.1, (e _ _ (by omega)).trans (h.2 i hi).2.2.1, (e _ _ (by omega)).trans (h.2 i hi).2.2.2⟩⟩
theorem fits_ok {D : aD} {T T' : aT} {w k : Nat} (hp : TOKp T) (hn : TOKn T) (hT : TOKs T') (hs : scn T T') (hM : MS D T') (hO : noS D T) (hw : w < 5) (hR : ∀ (i j : Nat), (i : Int) < T 15 2 → j < 6 → rawN T' (ngN T i) (T 17 i) w j = rkN T w k (ngN T i) (T 17 i) j) :
    Ok (f_X12_fits (cI (w : Int)) D) (fun r => r.1 = cI (if ftN T w k then 1 else 0) ∧ (∀ k j : Nat, ¬ (108 ≤ k ∧ k ≤ 111) → gI r.2 k j = gI D k j) ∧ r.2.2 = D.2) := by
  have hq := hp.1
  have hq2 := hn.1
  unfold f_X12_fits J_X12_fits_2
  refine ok_bindI (ok_lp (fun i t => t.1 = cI (i : Int) ∧ (∀ m : Nat, m < i → ntN T (mkN T (rkN T w k (ngN T m) (T 17 m)) (T 18 m).toNat) = T 19 m) ∧ (∀ k j : Nat, ¬ (108 ≤ k ∧ k ≤ 111) → gI t.2 k j = gI D k j) ∧ t.2.2 = D.2) (T 15 2).toNat (by omega) ⟨rfl, fun m h => absurd h (by omega), fun _ _ _ => rfl, rfl⟩ ?_)
  rintro i ⟨x, D1⟩ hi ⟨rfl, g1, g2, g3⟩
  show Ok (B_X12_fits_2 (cI (w : Int)) (cI (i : Int)) D1) _
  have hM1 : MS D1 T' := hM.fr (fun k j a => g2 k j (by omega)) (fun j a b => g2 _ j (by omega))
  have hO1 := hO.fr (D' := D1) (fun k j a => g2 k j (by omega))
  have e : ((i : Int)).toNat = i := by omega
  have o0 := hO1.1
  unfold B_X12_fits_2
  by_cases c : (i : Int) < T 15 2
  · have nb := nose_b hp hn c
    obtain ⟨o1, o2, o3, o4⟩ := hO1.2 i c
    have ga : gI D1 102 (T 16 i).toNat = cI (ngN T i) := by
      have h := hM1.2.2.2.1 (T 16 i).toNat (by rw [hs.1 5 (by omega)]; omega)
      rw [hs.2.2.1] at h
      exact h
    simp (disch := omega) only [e_bi, e_bind, e_let, e_tr, e_tl, cLm1, cLm2, cL0, cL1, cL2, cL3, cL4, cL5, cL6, cL7, cL8, cL9, cL10, cL11, cL12, cL13, cL14, cL15, cL16, cL17, cL18, cL19, cL20, cL21, cL22, cL23, cL24, cL25, cL29, cL30, cL31, cL32, cL36, cL48, cL50, cL51, cL52, cL64, cL99, cL100, cL700, cL1000, cL9999, cL10000, cI_add, cI_sub, cI_mul, cI_neg, cI_lt, cI_le, cI_eq, ne_eq, ifp, ifn, bI_p, bI_n, aZ_0, aZ_1, aZ_b, e_gdt, e_ifT, e_ifF, not_true_eq_false, not_false_eq_true, e_gd, o0, cI_inT, cI_nat, e, o1, o2, ga]
    have cc : ngN T i < T' 0 0 * T' 0 1 := by rw [hs.1 0 (by omega), hs.1 1 (by omega)]; exact nb.2.1
    refine ok_bindI ((tell_ok hT hM1 nb.1 cc nb.2.2.1 nb.2.2.2.1 (by omega) (by omega) (raw_s hT nb.1 cc)).mono fun D2 q => ?_)
    obtain ⟨q1, q2, q3⟩ := q
    have hO2 := hO1.fr (D' := D2) (fun k j a => q2 k j (by omega))
    obtain ⟨-, -, s3, s4⟩ := hO2.2 i c
    have v := (q1.2.2 (T 18 i).toNat (by rw [hs.1 2 (by omega)]; omega)).2
    rw [nt_cg hs, mk_cg hs (by omega) (by omega) (fun j hj => hR i j c hj)] at v
    have rawb := raw_s (T := T') (hour := T 17 i) (w := (w : Int)) hT nb.1 cc
    have mk := mk_b (T := T') (s := (T 18 i).toNat) hT.2.2.2.2.2.1 (by rw [hs.1 2 (by omega)]; omega) rawb (by omega)
    rw [mk_cg hs (by omega) (by omega) (fun j hj => hR i j c hj)] at mk
    have rb := rawb.1 (T 18 i).toNat (by omega)
    have nt := nt_b (T := T) mk.1 (show mkN T (rkN T w k (ngN T i) (T 17 i)) (T 18 i).toNat ≤ 4680 by omega)
    by_cases y : ntN T (mkN T (rkN T w k (ngN T i) (T 17 i)) (T 18 i).toNat) = T 19 i
    · simp (disch := omega) only [e_bi, e_bind, e_let, e_tr, e_tl, cLm1, cLm2, cL0, cL1, cL2, cL3, cL4, cL5, cL6, cL7, cL8, cL9, cL10, cL11, cL12, cL13, cL14, cL15, cL16, cL17, cL18, cL19, cL20, cL21, cL22, cL23, cL24, cL25, cL29, cL30, cL31, cL32, cL36, cL48, cL50, cL51, cL52, cL64, cL99, cL100, cL700, cL1000, cL9999, cL10000, cI_add, cI_sub, cI_mul, cI_neg, cI_lt, cI_le, cI_eq, ne_eq, ifp, ifn, bI_p, bI_n, aZ_0, aZ_1, aZ_b, e_gdt, e_ifT, e_ifF, not_true_eq_false, not_false_eq_true, e_gd, cI_inT, cI_nat, e, s3, s4, v]
      refine ok_someI (Or.inl ⟨_, rfl, by omega, rfl, fun m hm => ?_, fun k j a => (q2 k j a).trans (g2 k j a), q3.trans g3⟩)
      by_cases z : m = i
      · subst z; exact y
      · exact g1 m (by omega)
    · simp (disch := omega) only [e_bi, e_bind, e_let, e_tr, e_tl, cLm1, cLm2, cL0, cL1, cL2, cL3, cL4, cL5, cL6, cL7, cL8, cL9, cL10, cL11, cL12, cL13, cL14, cL15, cL16, cL17, cL18, cL19, cL20, cL21, cL22, cL23, cL24, cL25, cL29, cL30, cL31, cL32, cL36, cL48, cL50, cL51, cL52, cL64, cL99, cL100, cL700, cL1000, cL9999, cL10000, cI_add, cI_sub, cI_mul, cI_neg, cI_lt, cI_le, cI_eq, ne_eq, ifp, ifn, bI_p, bI_n, aZ_0, aZ_1, aZ_b, e_gdt, e_ifT, e_ifF, not_true_eq_false, not_false_eq_true, e_gd, cI_inT, cI_nat, e, s3, s4, v]
      refine ok_someI (Or.inr ⟨_, rfl, ?_⟩)
      have nf : ftN T w k = false := Bool.eq_false_iff.mpr (fun z => y (ft_iff.mp z i (by omega)))
      rw [nf]
      exact ok_someI ⟨rfl, fun k j a => (q2 k j a).trans (g2 k j a), q3.trans g3⟩
  · simp (disch := omega) only [e_bi, e_bind, e_let, e_tr, e_tl, cLm1, cLm2, cL0, cL1, cL2, cL3, cL4, cL5, cL6, cL7, cL8, cL9, cL10, cL11, cL12, cL13, cL14, cL15, cL16, cL17, cL18, cL19, cL20, cL21, cL22, cL23, cL24, cL25, cL29, cL30, cL31, cL32, cL36, cL48, cL50, cL51, cL52, cL64, cL99, cL100, cL700, cL1000, cL9999, cL10000, cI_add, cI_sub, cI_mul, cI_neg, cI_lt, cI_le, cI_eq, ne_eq, ifp, ifn, bI_p, bI_n, aZ_0, aZ_1, aZ_b, e_gdt, e_ifT, e_ifF, not_true_eq_false, not_false_eq_true, e_gd, o0]
    refine ok_someI (Or.inr ⟨_, rfl, ?_⟩)
    have yf : ftN T w k = true := ft_iff.mpr (fun m hm => g1 m (by omega))
    rw [yf]
    exact ok_someI ⟨rfl, g2, g3⟩
def frC (T : aT) (D D' : aD) : Prop := (∀ k j : Nat, ¬ (108 ≤ k ∧ k ≤ 112) → k ≠ 122 → ¬ (k = 88 ∧ (j = 30 ∨ j = 52)) → ¬ (j = (T 0 4).toNat ∧ (k = 99 ∨ k = 100 ∨ k = 101 ∨ k = 106)) → gI D' k j = gI D k j) ∧ D'.2 = D.2
theorem tellCases_ok {D : aD} {T : aT} (hp : TOKp T) (hn : TOKn T) (hM : MS D T) (h4 : gI D 91 4 = cI (T 0 4)) (hO : noS D T) :
    Ok (f_X12_tellCases D) (fun D' => MD D' (csN T 5) ∧ MS D' T ∧ frC T D D') := by
  have hq := hp.1
  have hq2 := hn.1
  have hT := TOKs.of hp hn
  have cl : ((clN T : Nat) : Int) = T 0 0 * T 0 1 := by unfold clN; omega
  have mk := mxK_b (T := T) (by omega) (by omega)
  have mx : mxK T = 1 + clN T * (T 0 2).toNat := rfl
  have pr : T 0 0 * T 0 1 * T 0 2 = ((clN T * (T 0 2).toNat : Nat) : Int) := by
    rw [Int.natCast_mul, cl, Int.toNat_of_nonneg (by omega)]
  unfold f_X12_tellCases J_X12_tellCases_7
  rw [e_let]
  refine ok_bindI (ok_lp (fun i t => t.1 = cI (i : Int) ∧ MD t.2 (csN T i) ∧ MS t.2 T ∧ frC T D t.2) 5 (by omega) ⟨rfl, ⟨gI_eq, fun i q h => by simp [csN] at h⟩, hM.fr (fun k j a => gI_fr (by omega)) (fun j a b => gI_fr (by omega)), fun k j a b c d => gI_fr (by omega), rfl⟩ ?_)
  rintro i ⟨x, D1⟩ hi ⟨rfl, g1, g2, g3⟩
  show Ok (B_X12_tellCases_7 (cI (i : Int)) D1) _
  unfold B_X12_tellCases_7
  by_cases c : i < 5
  · simp (disch := omega) only [e_bi, e_bind, e_let, e_tr, e_tl, cLm1, cLm2, cL0, cL1, cL2, cL3, cL4, cL5, cL6, cL7, cL8, cL9, cL10, cL11, cL12, cL13, cL14, cL15, cL16, cL17, cL18, cL19, cL20, cL21, cL22, cL23, cL24, cL25, cL29, cL30, cL31, cL32, cL36, cL48, cL50, cL51, cL52, cL64, cL99, cL100, cL700, cL1000, cL9999, cL10000, cI_add, cI_sub, cI_mul, cI_neg, cI_lt, cI_le, cI_eq, ne_eq, ifp, ifn, bI_p, bI_n, aZ_0, aZ_1, aZ_b, e_gdt, e_ifT, e_ifF, not_true_eq_false, not_false_eq_true, e_gd]
    have ll := cs_len (T := T) i
    have ll2 : i * mxK T ≤ 4 * mxK T := Nat.mul_le_mul (by omega) (Nat.le_refl _)
    have wb := hp.2.1 i c
    unfold J_X12_tellCases_14
    refine ok_bindI (ok_lp (fun n t => t.1 = cI (n : Int) ∧ MD t.2 (csN T i ++ if 0 < T 0 (10 + i) then cfN T i n else []) ∧ MS t.2 T ∧ frC T D t.2) (mxK T) (by omega) ⟨rfl, by simpa [cfN] using g1, g2, g3⟩ ?_)
    rintro n ⟨x, D2⟩ hn' ⟨rfl, f1, f2, f3⟩
    show Ok (B_X12_tellCases_14 (cI (i : Int)) (cI (n : Int)) D2) _
    have m0 := f2.1 0 (by omega) (by omega)
    have m1 := f2.1 1 (by omega) (by omega)
    have m2 := f2.1 2 (by omega) (by omega)
    have m4 : gI D2 91 4 = cI (T 0 4) := (f3.1 _ _ (by omega) (by omega) (by omega) (by omega)).trans h4
    have m30 := f2.2.2.2.2.2.1
    have mw := f2.1 (10 + i) (by omega) (by omega)
    have ew : (10 + (i : Int)).toNat = 10 + i := by omega
    have hO2 : noS D2 T := hO.fr (fun k j a => f3.1 k j (by omega) (by omega) (by omega) (by omega))
    by_cases d : n < mxK T
    · suffices hsu : ∀ Q : ((Int32 × aD) ⊕ aD) → Prop, (∀ D5 : aD, MD D5 (csN T i ++ if 0 < T 0 (10 + i) then cfN T i (n + 1) else []) → MS D5 T → frC T D D5 → Q (.inl (cI ((n : Int) + 1), D5))) → Ok (B_X12_tellCases_14 (cI (i : Int)) (cI (n : Int)) D2) Q from hsu _ (fun D5 a b c => Or.inl ⟨_, rfl, d, rfl, a, b, c⟩)
      intro Q hQ
      unfold B_X12_tellCases_14
      have nm : (n : Int) ≤ T 0 0 * T 0 1 * T 0 2 := by rw [pr]; omega
      have pb : T 0 0 * T 0 1 * T 0 2 ≤ 384 := by rw [pr]; omega
      have pb0 : 0 ≤ T 0 0 * T 0 1 * T 0 2 := by rw [pr]; omega
      have cn := cf_len (T := T) (w := i) n
      -- behind a case that is none
      have skip : (¬ (0 < T 0 (10 + i) ∧ caN T n = true)) → (∀ D3 : aD, ∀ P : ((Int32 × aD) ⊕ aD) → Prop, True) → MD D2 (csN T i ++ if 0 < T 0 (10 + i) then cfN T i (n + 1) else []) := by
        intro h _
        by_cases z : 0 < T 0 (10 + i)
        · have cf : caN T n = false := Bool.eq_false_iff.mpr (fun y => h ⟨z, y⟩)
          rw [if_pos z] at f1 ⊢
          rw [cfN, cf, Bool.false_and]
          simpa using f1
        · rw [if_neg z] at f1 ⊢
          exact f1
      have go : ∀ (T' : aT) (D3 : aD), TOKs T' → scn T T' → MS D3 T' → (∀ (a j : Nat), (a : Int) < T 15 2 → j < 6 → rawN T' (ngN T a) (T 17 a) i j = rkN T i n (ngN T a) (T 17 a) j) → 0 < T 0 (10 + i) → caN T n = true →
          (∀ k j : Nat, ¬ (k = 88 ∧ j = 30) → ¬ (j = (T 0 4).toNat ∧ (k = 99 ∨ k = 100 ∨ k = 101 ∨ k = 106)) → gI D3 k j = gI D2 k j) → D3.2 = D2.2 →
          Ok (aBi (f_X12_fits (cI (i : Int)) D3) (fun y_8 D_9 => if y_8 = 0 then (J_X12_tellCases_84 (cI (i : Int)) (cI (n : Int)) D_9) else (aGd (aIn (gI D_9 88 52) 1925) (aLet (pI D_9 122 (gI D_9 88 52).toNatClampNeg ((1000 * cI (i : Int)) + cI (n : Int))) (fun D_14 => aLet (pI D_14 88 52 ((gI D_14 88 52) + 1)) (fun D_15 => J_X12_tellCases_84 (cI (i : Int)) (cI (n : Int)) D_15)))))) Q := by
        intro T' D3 hT' hs hM3 hR hz hca e3 e32
        have hO3 := hO2.fr (D' := D3) (fun k j a => e3 k j (by omega) (by omega))
        refine ok_biI ((fits_ok (k := n) hp hn hT' hs hM3 hO3 c hR).mono fun r q => ?_)
        obtain ⟨y, D4⟩ := r
        obtain ⟨q1, q2, q3⟩ := q
        obtain rfl : y = _ := q1
        have q2' : ∀ k j : Nat, ¬ (108 ≤ k ∧ k ≤ 111) → gI D4 k j = gI D3 k j := q2
        have a4 : gI D4 91 4 = cI (T 0 4) := (q2' _ _ (by omega)).trans ((e3 _ _ (by omega) (by omega)).trans m4)
        rw [if_pos hz] at f1
        -- the reset, over D5 that differs from D4 in 122 and 88,52 alone
        have fin : ∀ D5 : aD, (∀ k j : Nat, k ≠ 122 → ¬ (k = 88 ∧ j = 52) → gI D5 k j = gI D4 k j) → D5.2 = D4.2 → MD D5 (csN T i ++ cfN T i (n + 1)) → Ok (J_X12_tellCases_84 (cI (i : Int)) (cI (n : Int)) D5) Q := by
          intro D5 e5 e52 hMD
          have a45 : gI D5 91 4 = cI (T 0 4) := (e5 _ _ (by omega) (by omega)).trans a4
          unfold J_X12_tellCases_84
          simp (disch := omega) only [e_bi, e_bind, e_let, e_tr, e_tl, cLm1, cLm2, cL0, cL1, cL2, cL3, cL4, cL5, cL6, cL7, cL8, cL9, cL10, cL11, cL12, cL13, cL14, cL15, cL16, cL17, cL18, cL19, cL20, cL21, cL22, cL23, cL24, cL25, cL29, cL30, cL31, cL32, cL36, cL48, cL50, cL51, cL52, cL64, cL99, cL100, cL700, cL1000, cL9999, cL10000, cI_add, cI_sub, cI_mul, cI_neg, cI_lt, cI_le, cI_eq, ne_eq, ifp, ifn, bI_p, bI_n, aZ_0, aZ_1, aZ_b, e_gdt, e_ifT, e_ifF, not_true_eq_false, not_false_eq_true, e_gd, cX0, cX1, cX2, cX3, cX4, cX5, cX6, cX7, cX8, cX9, cX10, cX11, cX12, cX13, cX14, cX15, cX16, cX17, cX18, cX19, cX20, cX21, cX22, cX23, cX24, cX25, cX29, cX30, cX31, cX32, cX36, Int.reduceToNat, cI_inT, a45]
          refine ok_someI (hQ _ ?_ ?_ ⟨?_, ?_⟩)
          · rw [if_pos hz]
            exact ⟨(gI_fr (by omega)).trans hMD.1, fun a q h => (gI_fr (by omega)).trans (hMD.2 a q h)⟩
          · refine f2.frP hT (fun k j a b => ?_) (fun j a b => ?_)
            · rw [gI_fr (by omega), e5 _ _ (by omega) (by omega), q2' _ _ (by omega), e3 _ _ (by omega) b]
            · by_cases z : j = 30
              · subst z; rw [gI_eq]; exact m30.symm
              · rw [gI_fr (by omega), e5 _ _ (by omega) (by omega), q2' _ _ (by omega), e3 _ _ (by omega) (by omega)]
          · intro k j a b cc dd
            show gI (pI D5 88 30 _) k j = _
            rw [gI_fr (by omega), e5 _ _ b (by omega), q2' _ _ (by omega), e3 _ _ (by omega) dd]
            exact f3.1 k j a b cc dd
          · exact e52.trans (q3.trans (e32.trans f3.2))
        have st : cfN T i (n + 1) = cfN T i n ++ if caN T n && ftN T i n then [(i, n)] else [] := rfl
        rw [hca, Bool.true_and] at st
        have c1 : gI D4 88 52 = cI ((csN T i ++ cfN T i n).length : Int) := (q2' _ _ (by omega)).trans ((e3 _ _ (by omega) (by omega)).trans f1.1)
        have c2 : ∀ (a : Nat) (q : Nat × Nat), (csN T i ++ cfN T i n)[a]? = some q → gI D4 122 a = cI (1000 * (q.1 : Int) + (q.2 : Int)) := fun a q h => (q2' _ _ (by omega)).trans ((e3 _ _ (by omega) (by omega)).trans (f1.2 a q h))
        have len : (csN T i ++ cfN T i n).length < 1925 := by rw [List.length_append]; omega
        generalize hl : csN T i ++ cfN T i n = l at c1 c2 len
        by_cases y : ftN T i n = true
        · rw [if_pos y] at st ⊢
          have el : ((l.length : Int)).toNat = l.length := by omega
          have c1' : gI (pI D4 122 l.length (cI (1000 * (i : Int) + (n : Int)))) 88 52 = cI (l.length : Int) := (gI_fr (by omega)).trans c1
          simp (disch := omega) only [e_bi, e_bind, e_let, e_tr, e_tl, cLm1, cLm2, cL0, cL1, cL2, cL3, cL4, cL5, cL6, cL7, cL8, cL9, cL10, cL11, cL12, cL13, cL14, cL15, cL16, cL17, cL18, cL19, cL20, cL21, cL22, cL23, cL24, cL25, cL29, cL30, cL31, cL32, cL36, cL48, cL50, cL51, cL52, cL64, cL99, cL100, cL700, cL1000, cL9999, cL10000, cI_add, cI_sub, cI_mul, cI_neg, cI_lt, cI_le, cI_eq, ne_eq, ifp, ifn, bI_p, bI_n, aZ_0, aZ_1, aZ_b, e_gdt, e_ifT, e_ifF, not_true_eq_false, not_false_eq_true, e_gd, cL1000, c1, cI_inT, cI_nat, el, c1']
          refine fin (pI (pI D4 122 l.length (cI (1000 * (i : Int) + (n : Int)))) 88 52 (cI ((l.length : Int) + 1))) (fun k j a b => by rw [gI_fr (by omega), gI_fr (by omega)]) rfl ?_
          rw [st, ← List.append_assoc, hl]
          refine ⟨by rw [gI_eq]; simp, fun a q h => ?_⟩
          rw [gI_fr (by omega)]
          by_cases z : a = l.length
          · subst z
            rw [List.getElem?_append_right (by omega), Nat.sub_self] at h
            cases h
            exact gI_eq
          · rw [gI_fr (by omega)]
            have hlt : a < l.length := by
              have := (List.getElem?_eq_some_iff.mp h).1
              simp at this
              omega
            rw [List.getElem?_append_left hlt] at h
            exact c2 a q h
        · have yf : ftN T i n = false := by simpa using y
          rw [yf] at st ⊢
          simp (disch := omega) only [e_bi, e_bind, e_let, e_tr, e_tl, cLm1, cLm2, cL0, cL1, cL2, cL3, cL4, cL5, cL6, cL7, cL8, cL9, cL10, cL11, cL12, cL13, cL14, cL15, cL16, cL17, cL18, cL19, cL20, cL21, cL22, cL23, cL24, cL25, cL29, cL30, cL31, cL32, cL36, cL48, cL50, cL51, cL52, cL64, cL99, cL100, cL700, cL1000, cL9999, cL10000, cI_add, cI_sub, cI_mul, cI_neg, cI_lt, cI_le, cI_eq, ne_eq, ifp, ifn, bI_p, bI_n, aZ_0, aZ_1, aZ_b, e_gdt, e_ifT, e_ifF, not_true_eq_false, not_false_eq_true, e_gd, Bool.false_eq_true]
          refine fin D4 (fun _ _ _ _ => rfl) rfl ?_
          rw [st]
          simp only [Bool.false_eq_true, if_false, List.append_nil]
          rw [hl]
          exact ⟨c1, c2⟩
      have hcond : ¬ (gI D2 91 ((0 : Int32).toNatClampNeg) * gI D2 91 ((1 : Int32).toNatClampNeg) * gI D2 91 ((2 : Int32).toNatClampNeg) < cI (n : Int)) := by
        show ¬ (gI D2 91 0 * gI D2 91 1 * gI D2 91 2 < cI (n : Int))
        rw [m0, m1, m2, cI_mul, cI_mul, cI_lt (by omega) (by omega) (by omega) (by omega)]
        omega
      rw [e_gd (by decide), e_gd (by decide), e_gd (by decide), if_neg hcond]
      by_cases z : 0 < T 0 (10 + i)
      · by_cases k0 : n = 0
        · have ic : f_X12_isCase (cI (i : Int)) (cI (n : Int)) D2 = some (cI 1, D2) := by
            unfold f_X12_isCase
            simp (disch := omega) only [e_bi, e_bind, e_let, e_tr, e_tl, cLm1, cLm2, cL0, cL1, cL2, cL3, cL4, cL5, cL6, cL7, cL8, cL9, cL10, cL11, cL12, cL13, cL14, cL15, cL16, cL17, cL18, cL19, cL20, cL21, cL22, cL23, cL24, cL25, cL29, cL30, cL31, cL32, cL36, cL48, cL50, cL51, cL52, cL64, cL99, cL100, cL700, cL1000, cL9999, cL10000, cI_add, cI_sub, cI_mul, cI_neg, cI_lt, cI_le, cI_eq, ne_eq, ifp, ifn, bI_p, bI_n, aZ_0, aZ_1, aZ_b, e_gdt, e_ifT, e_ifF, not_true_eq_false, not_false_eq_true, e_gd, cX0, cX1, cX2, cX3, cX4, cX5, cX6, cX7, cX8, cX9, cX10, cX11, cX12, cX13, cX14, cX15, cX16, cX17, cX18, cX19, cX20, cX21, cX22, cX23, cX24, cX25, cX29, cX30, cX31, cX32, cX36, Int.reduceToNat, cI_inT, cI_nat, ew, m0, m1, mw]
          rw [ic, e_bi, if_pos (show cI 1 ≠ 0 by decide)]
          have ca : caN T n = true := by subst k0; rfl
          exact go T D2 hT scn.rf f2 (fun a j ha hj => by unfold rkN; rw [if_neg (fun y => y.1 k0), Int.add_zero]) z ca (fun _ _ _ _ => rfl) rfl
        · have v := kv_b (T := T) (k := n) (by omega) (by omega) d k0
          have ecl : T 0 0 * T 0 1 = ((clN T : Nat) : Int) := cl.symm
          have dv : ((n : Int) - 1) / (T 0 0 * T 0 1) = ((ksN T n : Nat) : Int) := by
            rw [ecl, show (n : Int) - 1 = ((n - 1 : Nat) : Int) by omega, ← Int.natCast_ediv]
            rfl
          have rm : ((n : Int) - 1) % (T 0 0 * T 0 1) = ((kcN T n : Nat) : Int) := by
            rw [ecl, show (n : Int) - 1 = ((n - 1 : Nat) : Int) by omega, ← Int.natCast_emod]
            rfl
          have rm' : (n : Int) - 1 - ((ksN T n : Nat) : Int) * (T 0 0 * T 0 1) = ((kcN T n : Nat) : Int) := by
            rw [← dv, rem_e, rm]
          have hh := hasPlant_eq (D := D2) (c := kcN T n) hT f2 (by omega) (by omega)
          have k00 : (n == 0) = false := beq_eq_false_iff_ne.mpr k0
          by_cases t : takenN T (kcN T n) = true
          · rw [if_pos t] at hh
            have ic : f_X12_isCase (cI (i : Int)) (cI (n : Int)) D2 = some (cI 0, D2) := by
              unfold f_X12_isCase
              simp (disch := omega) only [e_bi, e_bind, e_let, e_tr, e_tl, cLm1, cLm2, cL0, cL1, cL2, cL3, cL4, cL5, cL6, cL7, cL8, cL9, cL10, cL11, cL12, cL13, cL14, cL15, cL16, cL17, cL18, cL19, cL20, cL21, cL22, cL23, cL24, cL25, cL29, cL30, cL31, cL32, cL36, cL48, cL50, cL51, cL52, cL64, cL99, cL100, cL700, cL1000, cL9999, cL10000, cI_add, cI_sub, cI_mul, cI_neg, cI_lt, cI_le, cI_eq, ne_eq, ifp, ifn, bI_p, bI_n, aZ_0, aZ_1, aZ_b, e_gdt, e_ifT, e_ifF, not_true_eq_false, not_false_eq_true, e_gd, cX0, cX1, cX2, cX3, cX4, cX5, cX6, cX7, cX8, cX9, cX10, cX11, cX12, cX13, cX14, cX15, cX16, cX17, cX18, cX19, cX20, cX21, cX22, cX23, cX24, cX25, cX29, cX30, cX31, cX32, cX36, Int.reduceToNat, cI_inT, cI_nat, ew, m0, m1, mw, m30, aNz_c, cI_div, dv, rm', hh]
            rw [ic, e_bi, if_neg (show ¬ (cI 0 ≠ 0) from fun y => y rfl), e_let]
            have ca : caN T n = false := by unfold caN; rw [k00, t]; rfl
            rw [show cI (n : Int) + 1 = cI ((n : Int) + 1) from cI_add n 1]
            exact ok_someI (hQ _ (skip (fun y => by rw [ca] at y; cases y.2) (fun _ _ => trivial)) f2 f3)
          · have tf : takenN T (kcN T n) = false := by simpa using t
            rw [if_neg t] at hh
            have ca : caN T n = true := by unfold caN; rw [k00, tf]; rfl
            have gr := growAs_ok (s := ((ksN T n : Nat) : Int)) (c := ((kcN T n : Nat) : Int)) (g := -1) hT f2 (by omega)
            obtain ⟨D3, eg, z1, z2, z3⟩ := gr
            have ic : f_X12_isCase (cI (i : Int)) (cI (n : Int)) D2 = some (cI 1, D3) := by
              unfold f_X12_isCase
              simp (disch := omega) only [e_bi, e_bind, e_let, e_tr, e_tl, cLm1, cLm2, cL0, cL1, cL2, cL3, cL4, cL5, cL6, cL7, cL8, cL9, cL10, cL11, cL12, cL13, cL14, cL15, cL16, cL17, cL18, cL19, cL20, cL21, cL22, cL23, cL24, cL25, cL29, cL30, cL31, cL32, cL36, cL48, cL50, cL51, cL52, cL64, cL99, cL100, cL700, cL1000, cL9999, cL10000, cI_add, cI_sub, cI_mul, cI_neg, cI_lt, cI_le, cI_eq, ne_eq, ifp, ifn, bI_p, bI_n, aZ_0, aZ_1, aZ_b, e_gdt, e_ifT, e_ifF, not_true_eq_false, not_false_eq_true, e_gd, cX0, cX1, cX2, cX3, cX4, cX5, cX6, cX7, cX8, cX9, cX10, cX11, cX12, cX13, cX14, cX15, cX16, cX17, cX18, cX19, cX20, cX21, cX22, cX23, cX24, cX25, cX29, cX30, cX31, cX32, cX36, Int.reduceToNat, cI_inT, cI_nat, ew, m0, m1, mw, m30, aNz_c, cI_div, dv, rm', hh, eg]
            rw [ic, e_bi, if_pos (show cI 1 ≠ 0 by decide)]
            have hTp := pl_ok (s := ((ksN T n : Nat) : Int)) (c := ((kcN T n : Nat) : Int)) (g := -1) hT (by omega) (by omega) v.1 (by omega) v.2.1 (by omega) (by omega)
            exact go (plT T (ksN T n : Nat) (kcN T n : Nat) (-1)) D3 hTp pl_scn z1 (fun a j ha hj => by
              rw [raw_pl (by omega)]
              unfold rkN
              by_cases y : ksN T n = j
              · rw [if_pos (by omega), if_pos ⟨k0, y⟩]
              · rw [if_neg (by omega), if_neg (fun q => y q.2)]) z ca z2 z3
      · have ic : f_X12_isCase (cI (i : Int)) (cI (n : Int)) D2 = some (cI 0, D2) := by
          unfold f_X12_isCase
          simp (disch := omega) only [e_bi, e_bind, e_let, e_tr, e_tl, cLm1, cLm2, cL0, cL1, cL2, cL3, cL4, cL5, cL6, cL7, cL8, cL9, cL10, cL11, cL12, cL13, cL14, cL15, cL16, cL17, cL18, cL19, cL20, cL21, cL22, cL23, cL24, cL25, cL29, cL30, cL31, cL32, cL36, cL48, cL50, cL51, cL52, cL64, cL99, cL100, cL700, cL1000, cL9999, cL10000, cI_add, cI_sub, cI_mul, cI_neg, cI_lt, cI_le, cI_eq, ne_eq, ifp, ifn, bI_p, bI_n, aZ_0, aZ_1, aZ_b, e_gdt, e_ifT, e_ifF, not_true_eq_false, not_false_eq_true, e_gd, cX0, cX1, cX2, cX3, cX4, cX5, cX6, cX7, cX8, cX9, cX10, cX11, cX12, cX13, cX14, cX15, cX16, cX17, cX18, cX19, cX20, cX21, cX22, cX23, cX24, cX25, cX29, cX30, cX31, cX32, cX36, Int.reduceToNat, cI_inT, cI_nat, ew, m0, m1, mw]
        rw [ic, e_bi, if_neg (show ¬ (cI 0 ≠ 0) from fun y => y rfl), e_let]
        rw [show cI (n : Int) + 1 = cI ((n : Int) + 1) from cI_add n 1]
        exact ok_someI (hQ _ (skip (fun y => z y.1) (fun _ _ => trivial)) f2 f3)
    · unfold B_X12_tellCases_14
      obtain rfl : n = mxK T := by omega
      have nm : T 0 0 * T 0 1 * T 0 2 < ((mxK T : Nat) : Int) := by rw [pr]; omega
      have pb0 : 0 ≤ T 0 0 * T 0 1 * T 0 2 := by rw [pr]; omega
      simp (disch := omega) only [e_bi, e_bind, e_let, e_tr, e_tl, cLm1, cLm2, cL0, cL1, cL2, cL3, cL4, cL5, cL6, cL7, cL8, cL9, cL10, cL11, cL12, cL13, cL14, cL15, cL16, cL17, cL18, cL19, cL20, cL21, cL22, cL23, cL24, cL25, cL29, cL30, cL31, cL32, cL36, cL48, cL50, cL51, cL52, cL64, cL99, cL100, cL700, cL1000, cL9999, cL10000, cI_add, cI_sub, cI_mul, cI_neg, cI_lt, cI_le, cI_eq, ne_eq, ifp, ifn, bI_p, bI_n, aZ_0, aZ_1, aZ_b, e_gdt, e_ifT, e_ifF, not_true_eq_false, not_false_eq_true, e_gd, cX0, cX1, cX2, cX3, cX4, cX5, cX6, cX7, cX8, cX9, cX10, cX11, cX12, cX13, cX14, cX15, cX16, cX17, cX18, cX19, cX20, cX21, cX22, cX23, cX24, cX25, cX29, cX30, cX31, cX32, cX36, Int.reduceToNat, cI_inT, m0, m1, m2]
      refine ok_someI (Or.inr ⟨_, rfl, ?_⟩)
      unfold J_X12_tellCases_100
      simp only [cL1, e_let, cI_add]
      exact ok_someI (Or.inl ⟨_, rfl, c, rfl, f1, f2, f3⟩)
  · obtain rfl : i = 5 := by omega
    simp (disch := omega) only [e_bi, e_bind, e_let, e_tr, e_tl, cLm1, cLm2, cL0, cL1, cL2, cL3, cL4, cL5, cL6, cL7, cL8, cL9, cL10, cL11, cL12, cL13, cL14, cL15, cL16, cL17, cL18, cL19, cL20, cL21, cL22, cL23, cL24, cL25, cL29, cL30, cL31, cL32, cL36, cL48, cL50, cL51, cL52, cL64, cL99, cL100, cL700, cL1000, cL9999, cL10000, cI_add, cI_sub, cI_mul, cI_neg, cI_lt, cI_le, cI_eq, ne_eq, ifp, ifn, bI_p, bI_n, aZ_0, aZ_1, aZ_b, e_gdt, e_ifT, e_ifF, not_true_eq_false, not_false_eq_true, e_gd]
    exact ok_someI (Or.inr ⟨_, rfl, ok_someI ⟨g1, g2, g3⟩⟩)
end CAT
