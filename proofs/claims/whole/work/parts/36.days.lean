/-! days of wind -/
section DYS
theorem drw_eq (x : Int32) : ((x.toUInt32 >>> ((16 : Int32).toUInt32 &&& Int32.toUInt32 31)).toInt32) &&& 32767 = (x >>> ((16 : Int32) &&& 31)) &&& 32767 := by
  refine Int32.toBitVec_inj.mp ?_
  rw [Int32.toBitVec_and, Int32.toBitVec_and]
  show (x.toBitVec >>> (16 : Nat)) &&& 32767#32 = (BitVec.sshiftRight x.toBitVec 16) &&& 32767#32
  refine BitVec.eq_of_getLsbD_eq (fun i hi => ?_)
  rw [BitVec.getLsbD_and, BitVec.getLsbD_and, BitVec.getLsbD_ushiftRight, BitVec.getLsbD_sshiftRight]
  by_cases c : i < 15
  · rw [if_pos (by omega)]
    simp [show ¬ (32 ≤ i) by omega]
  · have h : ∀ i : Nat, i < 32 → ¬ i < 15 → (32767#32).getLsbD i = false := by decide
    rw [h i hi c, Bool.and_false, Bool.and_false]
theorem k15 (x : Int32) : ∃ k : Int, 0 ≤ k ∧ k < 32768 ∧ x &&& 32767 = cI k := by
  refine ⟨((x &&& 32767).toBitVec.toNat : Int), by omega, ?_, ?_⟩
  · rw [Int32.toBitVec_and, BitVec.toNat_and]
    have := Nat.lt_of_le_of_lt (Nat.and_le_right (n := x.toBitVec.toNat) (m := (32767 : Int32).toBitVec.toNat)) (show (32767 : Int32).toBitVec.toNat < 32768 by decide)
    omega
  · rw [cI, Int32.ofInt_eq_ofNat]
    refine Int32.toBitVec_inj.mp ?_
    show _ = BitVec.ofNat 32 _
    rw [BitVec.ofNat_toNat, BitVec.setWidth_eq]
def nxD (x : Int32) : Int32 := x * 1103515245 + 12345
def dvN (x : Int32) : Int := Int32.toInt ((x >>> ((16 : Int32) &&& 31)) &&& 32767)
theorem dv_eq (x : Int32) : (x >>> ((16 : Int32) &&& 31)) &&& 32767 = cI (dvN x) ∧ 0 ≤ dvN x ∧ dvN x < 32768 := by
  obtain ⟨k, h1, h2, h3⟩ := k15 (x >>> ((16 : Int32) &&& 31))
  unfold dvN
  rw [h3, cI_toInt (by omega) (by omega)]
  exact ⟨rfl, h1, h2⟩
def wsN (T : aT) (n : Nat) : Int := sgN n (fun w => T 0 (10 + w))
def wdN (T : aT) (r : Int) : Nat := if r < wsN T 1 then 0 else if r < wsN T 2 then 1 else if r < wsN T 3 then 2 else if r < wsN T 4 then 3 else 4
theorem wd_is {T : aT} {r : Int} {i : Nat} (h : ∀ w : Nat, w < 5 → 0 ≤ T 0 (10 + w) ∧ T 0 (10 + w) ≤ 99) (hi : i < 5) (h1 : r < wsN T (i + 1)) (h2 : wsN T i ≤ r) : wdN T r = i := by
  have s1 : wsN T 1 = wsN T 0 + T 0 10 := rfl
  have s2 : wsN T 2 = wsN T 1 + T 0 11 := rfl
  have s3 : wsN T 3 = wsN T 2 + T 0 12 := rfl
  have s4 : wsN T 4 = wsN T 3 + T 0 13 := rfl
  have s5 : wsN T 5 = wsN T 4 + T 0 14 := rfl
  have a0 : 0 ≤ T 0 10 ∧ _ := h 0 (by omega)
  have a1 : 0 ≤ T 0 11 ∧ _ := h 1 (by omega)
  have a2 : 0 ≤ T 0 12 ∧ _ := h 2 (by omega)
  have a3 : 0 ≤ T 0 13 ∧ _ := h 3 (by omega)
  have a4 : 0 ≤ T 0 14 ∧ _ := h 4 (by omega)
  have e : i = 0 ∨ i = 1 ∨ i = 2 ∨ i = 3 ∨ i = 4 := by omega
  unfold wdN
  rcases e with rfl | rfl | rfl | rfl | rfl <;> simp only [Nat.zero_add, Nat.reduceAdd] at h1 h2 <;> simp (disch := omega) only [ifp, ifn]
theorem windAt_eq {D : aD} {T : aT} {r : Int} (hp : TOKp T) (hC : CP D 2 T) (h1 : 0 ≤ r) (h2 : r < allN T) : f_X1_windAt (cI r) D = some (cI ((wdN T r : Nat) : Int), D) ∧ wdN T r < 5 ∧ 0 < T 0 (10 + wdN T r) := by
  have hw := hp.2.1
  obtain ⟨-, -, -, q4, -⟩ := CP.two hC
  have key : Ok (f_X1_windAt (cI r) D) (fun q => q = (cI ((wdN T r : Nat) : Int), D) ∧ wdN T r < 5 ∧ 0 < T 0 (10 + wdN T r)) := by
    unfold f_X1_windAt J_X1_windAt_4
    refine ok_bindI (ok_lp (fun i t => t = (cI (wsN T i), cI (i : Int), D) ∧ wsN T i ≤ r) 5 (by omega) ⟨rfl, h1⟩ ?_)
    rintro i t hi ⟨rfl, h3⟩
    show Ok (B_X1_windAt_4 (cI r) (cI (wsN T i)) (cI (i : Int)) D) _
    unfold B_X1_windAt_4
    have b := sg_b (f := fun w => T 0 (10 + w)) (B := 99) i (fun w hw' => hw w (by omega))
    have b' : 0 ≤ wsN T i ∧ wsN T i ≤ i * 99 := b
    by_cases c : i < 5
    · have q := q4 i c
      have a := hw i c
      have e : ((i : Int)).toNat = i := by omega
      have st : wsN T (i + 1) = wsN T i + T 0 (10 + i) := rfl
      have ab := all_b hw
      by_cases d : wsN T i + T 0 (10 + i) ≤ r
      · simp (disch := omega) only [e_bi, e_bind, e_let, e_tr, e_tl, cLm1, cLm2, cL0, cL1, cL2, cL3, cL4, cL5, cL6, cL7, cL8, cL9, cL10, cL11, cL12, cL13, cL14, cL15, cL16, cL17, cL18, cL19, cL20, cL21, cL22, cL23, cL24, cL25, cL29, cL30, cL31, cL32, cL36, cL48, cL50, cL51, cL52, cL64, cL99, cL100, cL700, cL1000, cL9999, cL10000, cI_add, cI_sub, cI_mul, cI_neg, cI_lt, cI_le, cI_eq, ne_eq, ifp, ifn, bI_p, bI_n, aZ_0, aZ_1, aZ_b, e_gdt, e_ifT, e_ifF, not_true_eq_false, not_false_eq_true, e_gd, cI_inT, cI_nat, e, q]
        exact ok_someI (Or.inl ⟨_, rfl, c, by rw [st]; rfl, by omega⟩)
      · simp (disch := omega) only [e_bi, e_bind, e_let, e_tr, e_tl, cLm1, cLm2, cL0, cL1, cL2, cL3, cL4, cL5, cL6, cL7, cL8, cL9, cL10, cL11, cL12, cL13, cL14, cL15, cL16, cL17, cL18, cL19, cL20, cL21, cL22, cL23, cL24, cL25, cL29, cL30, cL31, cL32, cL36, cL48, cL50, cL51, cL52, cL64, cL99, cL100, cL700, cL1000, cL9999, cL10000, cI_add, cI_sub, cI_mul, cI_neg, cI_lt, cI_le, cI_eq, ne_eq, ifp, ifn, bI_p, bI_n, aZ_0, aZ_1, aZ_b, e_gdt, e_ifT, e_ifF, not_true_eq_false, not_false_eq_true, e_gd, cI_inT, cI_nat, e, q]
        have w := wd_is (r := r) (i := i) hw c (by omega) h3
        refine ok_someI (Or.inr ⟨_, rfl, ?_⟩)
        show Ok (J_X1_windAt_26 (cI (i : Int)) D) _
        unfold J_X1_windAt_26
        rw [w]
        exact ok_someI ⟨rfl, c, by omega⟩
    · obtain rfl : i = 5 := by omega
      have : wsN T 5 = allN T := rfl
      omega
  obtain ⟨q, e, rfl, h3, h4⟩ := key
  exact ⟨e, h3, h4⟩
def ldN (T : aT) (w : Nat) : Int := fbN (smG T w) (-1) (T 0 3).toNat
def dyN (T : aT) (g : Int) (seed : Int32) : Nat → Int32 × Int
  | 0 => (seed, 0)
  | n + 1 => if 0 < allN T then (nxD (dyN T g seed n).1, (dyN T g seed n).2 + if ldN T (wdN T (dvN (nxD (dyN T g seed n).1) % allN T)) = g then 1 else 0) else ((dyN T g seed n).1, (dyN T g seed n).2 + if ldN T 0 = g then 1 else 0)
theorem days_cls {D : aD} {T : aT} {g : Int} {seed : Int32} {n : Nat} (hp : TOKp T) (hn' : TOKn T) (hC : CP D 2 T) (hK : CK D T (wOn T)) (hg : 0 ≤ g ∧ g < T 0 3) (hn : n ≤ 100) :
    Ok (f_X1_daysWon (cI g) seed (cI (n : Int)) D) (fun r => r.1 = cI (dyN T g seed n).2 ∧ ∀ k j : Nat, ¬ (57 ≤ k ∧ k < 88) → gI r.2 k j = gI D k j) := by
  have hq := hp.1
  have hT := TOKs.of hp hn'
  have ab := all_b hp.2.1
  unfold f_X1_daysWon
  rw [callW_eq hp hC, e_bi]
  unfold J_X1_daysWon_12
  refine ok_bindI (ok_lp (fun i t => t.1 = cI (i : Int) ∧ (∀ w : Nat, w < i → wOn T w → gI t.2 67 w = cI (ldN T w)) ∧ ∀ k j : Nat, k ≠ 58 → k ≠ 59 → k ≠ 66 → k ≠ 67 → gI t.2 k j = gI D k j) 5 (by omega) ⟨rfl, fun w h => absurd h (by omega), fun _ _ _ _ _ _ => rfl⟩ ?_)
  rintro i ⟨x, D1⟩ hi ⟨rfl, h1, h2⟩
  show Ok (B_X1_daysWon_12 (cI g) seed (cI (n : Int)) (cI (allN T)) (cI (i : Int)) D1) _
  have hC1 : CP D1 2 T := hC.fr hp (fun k j hk => h2 _ j (by omega) (by omega) (by omega) (by omega))
  have hK1 : CK D1 T (wOn T) := hK.fr (fun k j a b => h2 k j (by omega) (by omega) (by omega) (by omega))
  obtain ⟨-, -, q3, q4, -⟩ := CP.two hC1
  have e : ((i : Int)).toNat = i := by omega
  unfold B_X1_daysWon_12
  by_cases c : i < 5
  · have go : ∀ Q : ((Int32 × aD) ⊕ aD) → Prop, wOn T i → (∀ D2 : aD, (∀ w : Nat, w < i + 1 → wOn T w → gI D2 67 w = cI (ldN T w)) → (∀ k j : Nat, k ≠ 58 → k ≠ 59 → k ≠ 66 → k ≠ 67 → gI D2 k j = gI D k j) → Q (.inl (cI ((i : Int) + 1), D2))) → Ok (J_X1_daysWon_36 (cI g) seed (cI (n : Int)) (cI (allN T)) (cI (i : Int)) D1) Q := by
      intro Q ho hQ
      unfold J_X1_daysWon_36
      refine ok_bindI ((addUp_ok hp hC1 hT scn.rf hK1 ho c (by have := hp.1; omega)).mono fun D2 k => ?_)
      have hC2 : CP D2 2 T := hC1.fr hp (fun k' j hk => k.2 _ j (by omega) (by omega) (by omega))
      rw [first_eq hp hC2 k.1 (smG_u hT) (by omega), e_bi]
      simp (disch := omega) only [e_bi, e_bind, e_let, e_tr, e_tl, cLm1, cLm2, cL0, cL1, cL2, cL3, cL4, cL5, cL6, cL7, cL8, cL9, cL10, cL11, cL12, cL13, cL14, cL15, cL16, cL17, cL18, cL19, cL20, cL21, cL22, cL23, cL24, cL25, cL29, cL30, cL31, cL32, cL36, cL48, cL50, cL51, cL52, cL64, cL99, cL100, cL700, cL1000, cL9999, cL10000, cI_add, cI_sub, cI_mul, cI_neg, cI_lt, cI_le, cI_eq, ne_eq, ifp, ifn, bI_p, bI_n, aZ_0, aZ_1, aZ_b, e_gdt, e_ifT, e_ifF, not_true_eq_false, not_false_eq_true, e_gd, cI_inT, cI_nat, e]
      refine ok_someI (hQ _ (fun w hw hwo => ?_) (fun k' j a1 a2 a3 a4 => ?_))
      · by_cases y : w = i
        · subst y; exact gI_eq
        · rw [gI_fr (by omega), k.2 _ _ (by omega) (by omega) (by omega)]; exact h1 w (by omega) hwo
      · rw [gI_fr (by omega), k.2 _ _ a1 a2 a3]; exact h2 k' j a1 a2 a3 a4
    by_cases c0 : i = 0
    · simp (disch := omega) only [e_bi, e_bind, e_let, e_tr, e_tl, cLm1, cLm2, cL0, cL1, cL2, cL3, cL4, cL5, cL6, cL7, cL8, cL9, cL10, cL11, cL12, cL13, cL14, cL15, cL16, cL17, cL18, cL19, cL20, cL21, cL22, cL23, cL24, cL25, cL29, cL30, cL31, cL32, cL36, cL48, cL50, cL51, cL52, cL64, cL99, cL100, cL700, cL1000, cL9999, cL10000, cI_add, cI_sub, cI_mul, cI_neg, cI_lt, cI_le, cI_eq, ne_eq, ifp, ifn, bI_p, bI_n, aZ_0, aZ_1, aZ_b, e_gdt, e_ifT, e_ifF, not_true_eq_false, not_false_eq_true, e_gd]
      exact go _ (Or.inl c0) (fun D2 a b => Or.inl ⟨_, rfl, c, rfl, a, b⟩)
    · have q := q4 i c
      have a := hp.2.1 i c
      by_cases c1 : 0 < T 0 (10 + i)
      · simp (disch := omega) only [e_bi, e_bind, e_let, e_tr, e_tl, cLm1, cLm2, cL0, cL1, cL2, cL3, cL4, cL5, cL6, cL7, cL8, cL9, cL10, cL11, cL12, cL13, cL14, cL15, cL16, cL17, cL18, cL19, cL20, cL21, cL22, cL23, cL24, cL25, cL29, cL30, cL31, cL32, cL36, cL48, cL50, cL51, cL52, cL64, cL99, cL100, cL700, cL1000, cL9999, cL10000, cI_add, cI_sub, cI_mul, cI_neg, cI_lt, cI_le, cI_eq, ne_eq, ifp, ifn, bI_p, bI_n, aZ_0, aZ_1, aZ_b, e_gdt, e_ifT, e_ifF, not_true_eq_false, not_false_eq_true, e_gd, cI_inT, cI_nat, e, q]
        exact go _ (Or.inr c1) (fun D2 a b => Or.inl ⟨_, rfl, c, rfl, a, b⟩)
      · simp (disch := omega) only [e_bi, e_bind, e_let, e_tr, e_tl, cLm1, cLm2, cL0, cL1, cL2, cL3, cL4, cL5, cL6, cL7, cL8, cL9, cL10, cL11, cL12, cL13, cL14, cL15, cL16, cL17, cL18, cL19, cL20, cL21, cL22, cL23, cL24, cL25, cL29, cL30, cL31, cL32, cL36, cL48, cL50, cL51, cL52, cL64, cL99, cL100, cL700, cL1000, cL9999, cL10000, cI_add, cI_sub, cI_mul, cI_neg, cI_lt, cI_le, cI_eq, ne_eq, ifp, ifn, bI_p, bI_n, aZ_0, aZ_1, aZ_b, e_gdt, e_ifT, e_ifF, not_true_eq_false, not_false_eq_true, e_gd, cI_inT, cI_nat, e, q]
        refine ok_someI (Or.inl ⟨_, rfl, c, rfl, fun w hw hwo => h1 w ?_ hwo, h2⟩)
        unfold wOn at hwo
        by_cases y : w = i
        · subst y; omega
        · omega
  · obtain rfl : i = 5 := by omega
    simp (disch := omega) only [e_bi, e_bind, e_let, e_tr, e_tl, cLm1, cLm2, cL0, cL1, cL2, cL3, cL4, cL5, cL6, cL7, cL8, cL9, cL10, cL11, cL12, cL13, cL14, cL15, cL16, cL17, cL18, cL19, cL20, cL21, cL22, cL23, cL24, cL25, cL29, cL30, cL31, cL32, cL36, cL48, cL50, cL51, cL52, cL64, cL99, cL100, cL700, cL1000, cL9999, cL10000, cI_add, cI_sub, cI_mul, cI_neg, cI_lt, cI_le, cI_eq, ne_eq, ifp, ifn, bI_p, bI_n, aZ_0, aZ_1, aZ_b, e_gdt, e_ifT, e_ifF, not_true_eq_false, not_false_eq_true, e_gd]
    refine ok_someI (Or.inr ⟨_, rfl, ?_⟩)
    unfold J_X1_daysWon_59 J_X1_daysWon_68
    have fbw : ∀ w : Nat, -1 ≤ ldN T w ∧ ldN T w < 5 := fun w => by
      have := fb_b (U := smG T w) (b := -1) (T 0 3).toNat
      unfold ldN
      omega
    have st : ∀ (i : Nat) (w : Nat) (dr : Int32) (dc : Int), w < 5 → wOn T w → J_X1_daysWon_111 (cI g) (cI (n : Int)) (cI (allN T)) dr (cI dc) (cI (i : Int)) (cI (w : Int)) D1 = some (.inl (dr, cI (dc + if ldN T w = g then 1 else 0), cI ((i : Int) + 1), D1)) := by
      intro i w dr dc hw hwo
      have l := h1 w hw hwo
      have ew : ((w : Int)).toNat = w := by omega
      have fw := fbw w
      unfold J_X1_daysWon_111
      by_cases y : ldN T w = g
      · simp (disch := omega) only [e_gd, e_gdt, e_let, cI_inT, cI_nat, ew, l, cI_eq, ne_eq, ifn, ifp, cL1, cI_add]
      · simp (disch := omega) only [e_gd, e_gdt, e_let, cI_inT, cI_nat, ew, l, cI_eq, ne_eq, ifn, ifp, cL1, cI_add, Int.add_zero]
    have L : aLp (fun s : Int32 × Int32 × Int32 × aD => B_X1_daysWon_68 (cI g) (cI (n : Int)) (cI (allN T)) s.1 s.2.1 s.2.2.1 s.2.2.2) (seed, cI 0, cI 0, D1) = some (cI (dyN T g seed n).2, D1) := by
      refine lp_cnt (body := fun s : Int32 × Int32 × Int32 × aD => B_X1_daysWon_68 (cI g) (cI (n : Int)) (cI (allN T)) s.1 s.2.1 s.2.2.1 s.2.2.2) n (by omega) (fun i => ((dyN T g seed i).1, cI (dyN T g seed i).2, cI (i : Int), D1)) (cI (dyN T g seed n).2, D1) ?_ ?_
      · intro i hi
        show B_X1_daysWon_68 (cI g) (cI (n : Int)) (cI (allN T)) (dyN T g seed i).1 (cI (dyN T g seed i).2) (cI (i : Int)) D1 = some (.inl ((dyN T g seed (i + 1)).1, cI (dyN T g seed (i + 1)).2, cI ((i + 1 : Nat) : Int), D1))
        rw [dyN]
        generalize dyN T g seed i = z
        obtain ⟨dr, dc⟩ := z
        unfold B_X1_daysWon_68
        by_cases al : 0 < allN T
        · rw [if_pos al]
          rw [if_neg (show ¬ (cI (n : Int) ≤ cI (i : Int)) by rw [cI_le (by omega) (by omega) (by omega) (by omega)]; omega), if_neg (show ¬ (cI (allN T) ≤ 0) by show ¬ (cI (allN T) ≤ cI 0); rw [cI_le (by omega) (by omega) (by omega) (by omega)]; omega), e_let, e_gd (aNz_c al (by omega))]
          have hx : dr * 1103515245 + 12345 = nxD dr := rfl
          rw [hx]
          have dv := dv_eq (nxD dr)
          rw [drw_eq, dv.1]
          replace dv := dv.2
          generalize dvN (nxD dr) = dd at dv ⊢
          generalize nxD dr = nx
          have m1 := Int.emod_nonneg dd (show allN T ≠ 0 by omega)
          have m2 := Int.emod_lt_of_pos dd al
          have wa := windAt_eq (r := dd % allN T) hp hC1 m1 m2
          rw [cI_rem dv.1 (by omega) al (by omega), wa.1, e_bi, st i _ _ _ wa.2.1 (Or.inr wa.2.2)]
          rfl
        · rw [if_neg al]
          rw [if_neg (show ¬ (cI (n : Int) ≤ cI (i : Int)) by rw [cI_le (by omega) (by omega) (by omega) (by omega)]; omega), if_pos (show cI (allN T) ≤ 0 by show cI (allN T) ≤ cI 0; rw [cI_le (by omega) (by omega) (by omega) (by omega)]; omega)]
          have := st i 0 dr dc (by omega) (Or.inl rfl)
          exact this
      · show B_X1_daysWon_68 (cI g) (cI (n : Int)) (cI (allN T)) (dyN T g seed n).1 (cI (dyN T g seed n).2) (cI (n : Int)) D1 = _
        unfold B_X1_daysWon_68
        simp (disch := omega) only [cI_le, ifp]
    rw [show aLp (fun s : Int32 × Int32 × Int32 × aD => B_X1_daysWon_68 (cI g) (cI (n : Int)) (cI (allN T)) s.1 s.2.1 s.2.2.1 s.2.2.2) (seed, 0, 0, D1) = _ from L, e_bind]
    exact ok_someI ⟨rfl, fun k j a => h2 k j (by omega) (by omega) (by omega) (by omega)⟩
theorem days_mod {D : aD} {T : aT} {g : Int} {seed : Int32} {n : Nat} (hT : TOKs T) (hM : MS D T) (hg : 0 ≤ g ∧ g < T 0 3) (hn : n ≤ 100) :
    Ok (J_X12_days_38 (cI g) seed (cI (n : Int)) 0 D) (fun r => r.1 = cI (dyN T g seed n).2 ∧ (∀ k j : Nat, ¬ mScr k j → gI r.2 k j = gI D k j) ∧ gI r.2 88 2 = gI D 88 2 ∧ r.2.2 = D.2) := by
  have hq := hT.1
  have ab := all_b hT.2.1
  unfold J_X12_days_38
  refine ok_bindI (ok_lp (fun i t => t.1 = cI (i : Int) ∧ (∀ w : Nat, w < i → gI t.2 124 w = cI (ldN T w)) ∧ (∀ k j : Nat, ¬ (108 ≤ k ∧ k ≤ 112) → k ≠ 124 → gI t.2 k j = gI D k j) ∧ t.2.2 = D.2) 5 (by omega) ⟨rfl, fun w h => absurd h (by omega), fun _ _ _ _ => rfl, rfl⟩ ?_)
  rintro i ⟨x, D1⟩ hi ⟨rfl, h1, h2, h3⟩
  show Ok (B_X12_days_38 (cI g) seed (cI (n : Int)) (cI (i : Int)) D1) _
  have hM1 : MS D1 T := hM.fr (fun k j a => h2 k j (by omega) (by omega)) (fun j a b => h2 _ j (by omega) (by omega))
  have e : ((i : Int)).toNat = i := by omega
  unfold B_X12_days_38
  by_cases c : i < 5
  · simp (disch := omega) only [e_bi, e_bind, e_let, e_tr, e_tl, cLm1, cLm2, cL0, cL1, cL2, cL3, cL4, cL5, cL6, cL7, cL8, cL9, cL10, cL11, cL12, cL13, cL14, cL15, cL16, cL17, cL18, cL19, cL20, cL21, cL22, cL23, cL24, cL25, cL29, cL30, cL31, cL32, cL36, cL48, cL50, cL51, cL52, cL64, cL99, cL100, cL700, cL1000, cL9999, cL10000, cI_add, cI_sub, cI_mul, cI_neg, cI_lt, cI_le, cI_eq, ne_eq, ifp, ifn, bI_p, bI_n, aZ_0, aZ_1, aZ_b, e_gdt, e_ifT, e_ifF, not_true_eq_false, not_false_eq_true, e_gd]
    refine ok_biI ((winnerBy_ok hT hM1 c).mono fun r k => ?_)
    obtain ⟨y, D2⟩ := r
    obtain ⟨k1, k2, k3, k4⟩ := k
    obtain rfl : y = _ := k1
    have k3' : ∀ k j : Nat, ¬ (108 ≤ k ∧ k ≤ 112) → gI D2 k j = gI D1 k j := k3
    simp (disch := omega) only [e_bi, e_bind, e_let, e_tr, e_tl, cLm1, cLm2, cL0, cL1, cL2, cL3, cL4, cL5, cL6, cL7, cL8, cL9, cL10, cL11, cL12, cL13, cL14, cL15, cL16, cL17, cL18, cL19, cL20, cL21, cL22, cL23, cL24, cL25, cL29, cL30, cL31, cL32, cL36, cL48, cL50, cL51, cL52, cL64, cL99, cL100, cL700, cL1000, cL9999, cL10000, cI_add, cI_sub, cI_mul, cI_neg, cI_lt, cI_le, cI_eq, ne_eq, ifp, ifn, bI_p, bI_n, aZ_0, aZ_1, aZ_b, e_gdt, e_ifT, e_ifF, not_true_eq_false, not_false_eq_true, e_gd, cI_inT, cI_nat, e]
    refine ok_someI (Or.inl ⟨_, rfl, c, rfl, fun w hw => ?_, fun k' j a b => ?_, k4.trans h3⟩)
    · show gI (pI D2 124 i _) 124 w = _
      by_cases y : w = i
      · subst y; exact gI_eq
      · rw [gI_fr (by omega), k3' _ _ (by omega)]; exact h1 w (by omega)
    · show gI (pI D2 124 i _) k' j = _
      rw [gI_fr (by omega), k3' _ _ a]; exact h2 k' j a b
  · obtain rfl : i = 5 := by omega
    simp (disch := omega) only [e_bi, e_bind, e_let, e_tr, e_tl, cLm1, cLm2, cL0, cL1, cL2, cL3, cL4, cL5, cL6, cL7, cL8, cL9, cL10, cL11, cL12, cL13, cL14, cL15, cL16, cL17, cL18, cL19, cL20, cL21, cL22, cL23, cL24, cL25, cL29, cL30, cL31, cL32, cL36, cL48, cL50, cL51, cL52, cL64, cL99, cL100, cL700, cL1000, cL9999, cL10000, cI_add, cI_sub, cI_mul, cI_neg, cI_lt, cI_le, cI_eq, ne_eq, ifp, ifn, bI_p, bI_n, aZ_0, aZ_1, aZ_b, e_gdt, e_ifT, e_ifF, not_true_eq_false, not_false_eq_true, e_gd]
    refine ok_someI (Or.inr ⟨_, rfl, ?_⟩)
    unfold J_X12_days_63 J_X12_days_78
    rw [mallW_eq hM1, e_bi]
    have fbw : ∀ w : Nat, -1 ≤ ldN T w ∧ ldN T w < 5 := fun w => by
      have := fb_b (U := smG T w) (b := -1) (T 0 3).toNat
      unfold ldN
      omega
    have st : ∀ (i : Nat) (w : Nat) (dr : Int32) (dc : Int), w < 5 → J_X12_days_154 (cI g) (cI (n : Int)) (cI (allN T)) dr (cI dc) (cI (i : Int)) (cI (w : Int)) D1 = some (.inl (dr, cI (dc + if ldN T w = g then 1 else 0), cI ((i : Int) + 1), D1)) := by
      intro i w dr dc hw
      have l := h1 w hw
      have ew : ((w : Int)).toNat = w := by omega
      have fw := fbw w
      unfold J_X12_days_154
      by_cases y : ldN T w = g
      · simp (disch := omega) only [e_gd, e_gdt, e_let, cI_inT, cI_nat, ew, l, cI_eq, ne_eq, ifn, ifp, cL1, cL0, cI_add]
      · simp (disch := omega) only [e_gd, e_gdt, e_let, cI_inT, cI_nat, ew, l, cI_eq, ne_eq, ifn, ifp, cL1, cL0, cI_add]
    have wat : ∀ (i : Nat) (dr : Int32) (dc : Int) (r : Int), 0 ≤ r → r < allN T → J_X12_days_118 (cI g) (cI (n : Int)) (cI (allN T)) dr (cI dc) (cI (i : Int)) (cI 0) (cI r) D1 = some (.inl (dr, cI (dc + if ldN T (wdN T r) = g then 1 else 0), cI ((i : Int) + 1), D1)) := by
      intro i dr dc r r1 r2
      refine ok_eq ?_
      unfold J_X12_days_118
      refine ok_bindI (ok_lp (fun j t => t = (cI (j : Int), cI (r - wsN T j), D1) ∧ wsN T j ≤ r) 5 (by omega) ⟨by rw [show r - wsN T 0 = r by unfold wsN sgN; omega]; rfl, r1⟩ ?_)
      rintro j t hj ⟨rfl, h9⟩
      show Ok (B_X12_days_118 (cI g) (cI (n : Int)) (cI (allN T)) dr (cI dc) (cI (i : Int)) (cI (j : Int)) (cI (r - wsN T j)) D1) _
      have b := sg_b (f := fun w => T 0 (10 + w)) (B := 99) j (fun w hw' => hT.2.1 w (by omega))
      have b' : 0 ≤ wsN T j ∧ wsN T j ≤ j * 99 := b
      by_cases c : j < 5
      · have q := hM1.1 (10 + j) (by omega) (by omega)
        have a := hT.2.1 j c
        have e : (10 + (j : Int)).toNat = 10 + j := by omega
        have st2 : wsN T (j + 1) = wsN T j + T 0 (10 + j) := rfl
        unfold B_X12_days_118
        by_cases d : r - wsN T j < T 0 (10 + j)
        · simp (disch := omega) only [e_bi, e_bind, e_let, e_tr, e_tl, cLm1, cLm2, cL0, cL1, cL2, cL3, cL4, cL5, cL6, cL7, cL8, cL9, cL10, cL11, cL12, cL13, cL14, cL15, cL16, cL17, cL18, cL19, cL20, cL21, cL22, cL23, cL24, cL25, cL29, cL30, cL31, cL32, cL36, cL48, cL50, cL51, cL52, cL64, cL99, cL100, cL700, cL1000, cL9999, cL10000, cI_add, cI_sub, cI_mul, cI_neg, cI_lt, cI_le, cI_eq, ne_eq, ifp, ifn, bI_p, bI_n, aZ_0, aZ_1, aZ_b, e_gdt, e_ifT, e_ifF, not_true_eq_false, not_false_eq_true, e_gd, cI_inT, cI_nat, e, q]
          have w := wd_is (r := r) (i := j) hT.2.1 c (by omega) h9
          refine ok_someI (Or.inr ⟨_, rfl, ?_⟩)
          show Ok (J_X12_days_154 (cI g) (cI (n : Int)) (cI (allN T)) dr (cI dc) (cI (i : Int)) (cI (j : Int)) D1) _
          rw [st i j dr dc c, w]
          exact ok_someI rfl
        · simp (disch := omega) only [e_bi, e_bind, e_let, e_tr, e_tl, cLm1, cLm2, cL0, cL1, cL2, cL3, cL4, cL5, cL6, cL7, cL8, cL9, cL10, cL11, cL12, cL13, cL14, cL15, cL16, cL17, cL18, cL19, cL20, cL21, cL22, cL23, cL24, cL25, cL29, cL30, cL31, cL32, cL36, cL48, cL50, cL51, cL52, cL64, cL99, cL100, cL700, cL1000, cL9999, cL10000, cI_add, cI_sub, cI_mul, cI_neg, cI_lt, cI_le, cI_eq, ne_eq, ifp, ifn, bI_p, bI_n, aZ_0, aZ_1, aZ_b, e_gdt, e_ifT, e_ifF, not_true_eq_false, not_false_eq_true, e_gd, cI_inT, cI_nat, e, q]
          exact ok_someI (Or.inl ⟨_, rfl, c, by rw [st2, Int.sub_sub]; rfl, by omega⟩)
      · obtain rfl : j = 5 := by omega
        have : wsN T 5 = allN T := rfl
        omega
    have L : aLp (fun s : Int32 × Int32 × Int32 × aD => B_X12_days_78 (cI g) (cI (n : Int)) (cI (allN T)) s.1 s.2.1 s.2.2.1 s.2.2.2) (seed, cI 0, cI 0, D1) = some (cI (dyN T g seed n).2, D1) := by
      refine lp_cnt (body := fun s : Int32 × Int32 × Int32 × aD => B_X12_days_78 (cI g) (cI (n : Int)) (cI (allN T)) s.1 s.2.1 s.2.2.1 s.2.2.2) n (by omega) (fun i => ((dyN T g seed i).1, cI (dyN T g seed i).2, cI (i : Int), D1)) (cI (dyN T g seed n).2, D1) ?_ ?_
      · intro i hi
        show B_X12_days_78 (cI g) (cI (n : Int)) (cI (allN T)) (dyN T g seed i).1 (cI (dyN T g seed i).2) (cI (i : Int)) D1 = some (.inl ((dyN T g seed (i + 1)).1, cI (dyN T g seed (i + 1)).2, cI ((i + 1 : Nat) : Int), D1))
        rw [dyN]
        generalize dyN T g seed i = z
        obtain ⟨dr, dc⟩ := z
        unfold B_X12_days_78
        by_cases al : 0 < allN T
        · rw [if_pos al]
          rw [if_neg (show ¬ (cI (n : Int) ≤ cI (i : Int)) by rw [cI_le (by omega) (by omega) (by omega) (by omega)]; omega), if_neg (show ¬ (cI (allN T) ≤ 0) by show ¬ (cI (allN T) ≤ cI 0); rw [cI_le (by omega) (by omega) (by omega) (by omega)]; omega), e_let, e_gd (aNz_c al (by omega)), e_let]
          have hx : dr * 1103515245 + 12345 = nxD dr := rfl
          rw [hx]
          have dv := dv_eq (nxD dr)
          rw [dv.1]
          replace dv := dv.2
          generalize dvN (nxD dr) = dd at dv ⊢
          generalize nxD dr = nx
          have m1 := Int.emod_nonneg dd (show allN T ≠ 0 by omega)
          have m2 := Int.emod_lt_of_pos dd al
          rw [cI_rem dv.1 (by omega) al (by omega)]
          have := wat i nx dc _ m1 m2
          exact this
        · rw [if_neg al]
          rw [if_neg (show ¬ (cI (n : Int) ≤ cI (i : Int)) by rw [cI_le (by omega) (by omega) (by omega) (by omega)]; omega), if_pos (show cI (allN T) ≤ 0 by show cI (allN T) ≤ cI 0; rw [cI_le (by omega) (by omega) (by omega) (by omega)]; omega)]
          have := st i 0 dr dc (by omega)
          exact this
      · show B_X12_days_78 (cI g) (cI (n : Int)) (cI (allN T)) (dyN T g seed n).1 (cI (dyN T g seed n).2) (cI (n : Int)) D1 = _
        unfold B_X12_days_78
        simp (disch := omega) only [cI_le, ifp]
    rw [show aLp (fun s : Int32 × Int32 × Int32 × aD => B_X12_days_78 (cI g) (cI (n : Int)) (cI (allN T)) s.1 s.2.1 s.2.2.1 s.2.2.2) (seed, 0, 0, D1) = _ from L, e_bind]
    exact ok_someI ⟨rfl, fun k j a => h2 k j (by unfold mScr at a; omega) (by unfold mScr at a; omega), h2 _ _ (by omega) (by omega), h3⟩
theorem step_24 {D : aD} {v1 v2 v3 v4 v5 : Int32} (h : lawP D) : Ok2 (f_law_24 v1 v2 v3 v4 v5 D) (fun r D => r = 1 ∧ lawP D) := by
  obtain ⟨T, K, L, B, H⟩ := h
  have ⟨hp, hn, hC, hN, hM, hR, _⟩ := H
  have hq := hp.1
  obtain ⟨a, rfl, ha1, ha2⟩ := cI_of v1
  obtain ⟨z, rfl, hz1, hz2⟩ := cI_of v3
  unfold f_law_24 f_L_days
  by_cases x1 : 0 ≤ a ∧ a < T 0 3
  · by_cases x3 : 0 ≤ z ∧ z ≤ 100
    · have ez : ((z.toNat : Nat) : Int) = z := by omega
      refine hp_step2 (fc := f_X11_days (cI a) v2 (cI z) D) (fm := fun D => f_X12_days (cI a) v2 (cI z) D) (P := lawP) (C := rel T K L B) (by decide) (.inl (cI (dyN T a v2 z.toNat).2)) (fun D x h => h) ?_ (fun D H => ?_)
      · unfold f_X11_days
        simp (disch := omega) only [e_bi, e_bind, e_let, e_tr, e_tl, cLm1, cLm2, cL0, cL1, cL2, cL3, cL4, cL5, cL6, cL7, cL8, cL9, cL10, cL11, cL12, cL13, cL14, cL15, cL16, cL17, cL18, cL19, cL20, cL21, cL22, cL23, cL24, cL25, cL29, cL30, cL31, cL32, cL36, cL48, cL50, cL51, cL52, cL64, cL99, cL100, cL700, cL1000, cL9999, cL10000, cI_add, cI_sub, cI_mul, cI_neg, cI_lt, cI_le, cI_eq, ne_eq, ifp, ifn, bI_p, bI_n, aZ_0, aZ_1, aZ_b, e_gdt, e_ifT, e_ifF, not_true_eq_false, not_false_eq_true, e_gd, (needGarden_eq hp hC ha1 ha2).1 x1]
        refine odds_cls H (fun D1 hC1 hN1 hK1 H1 => ok_biI ?_)
        have k := days_cls (seed := v2) (n := z.toNat) hp hn hC1 hK1 x1 (by omega)
        rw [ez] at k
        refine k.mono fun r q => ?_
        obtain ⟨y, D2⟩ := r
        obtain ⟨q1, q2⟩ := q
        obtain rfl : y = _ := q1
        exact ok_someI ⟨rfl, H1.cls q2⟩
      · have H0 := H.code (x := cI 0)
        have hM0 := H0.2.2.2.2.1
        have hMS := MS.of hM0 H0.2.2.2.2.2.1
        have k := days_mod (seed := v2) (n := z.toNat) (g := a) (TOKs.of hp hn) hMS x1 (by omega)
        rw [ez] at k
        unfold f_X12_days
        simp (disch := omega) only [e_bi, e_bind, e_let, e_tr, e_tl, cLm1, cLm2, cL0, cL1, cL2, cL3, cL4, cL5, cL6, cL7, cL8, cL9, cL10, cL11, cL12, cL13, cL14, cL15, cL16, cL17, cL18, cL19, cL20, cL21, cL22, cL23, cL24, cL25, cL29, cL30, cL31, cL32, cL36, cL48, cL50, cL51, cL52, cL64, cL99, cL100, cL700, cL1000, cL9999, cL10000, cI_add, cI_sub, cI_mul, cI_neg, cI_lt, cI_le, cI_eq, ne_eq, ifp, ifn, bI_p, bI_n, aZ_0, aZ_1, aZ_b, e_gdt, e_ifT, e_ifF, not_true_eq_false, not_false_eq_true, e_gd, isGarden_eq hp hM0, isIn_eq]
        refine k.mono fun r q => ?_
        exact ⟨⟨q.2.2.1.trans gI_eq, q.1⟩, q.2.2.2, T, K, L, B, H0.mod q.2.1⟩
    · refine hp_step2 (fc := f_X11_days (cI a) v2 (cI z) D) (fm := fun D => f_X12_days (cI a) v2 (cI z) D) (P := lawP) (C := rel T K L B) (by decide) (.inr true) (fun D x h => h) ?_ (fun D H => ?_)
      · unfold f_X11_days J_X11_days_15
        by_cases y : z < 0
        · simp (disch := omega) only [e_bi, e_bind, e_let, e_tr, e_tl, cLm1, cLm2, cL0, cL1, cL2, cL3, cL4, cL5, cL6, cL7, cL8, cL9, cL10, cL11, cL12, cL13, cL14, cL15, cL16, cL17, cL18, cL19, cL20, cL21, cL22, cL23, cL24, cL25, cL29, cL30, cL31, cL32, cL36, cL48, cL50, cL51, cL52, cL64, cL99, cL100, cL700, cL1000, cL9999, cL10000, cI_add, cI_sub, cI_mul, cI_neg, cI_lt, cI_le, cI_eq, ne_eq, ifp, ifn, bI_p, bI_n, aZ_0, aZ_1, aZ_b, e_gdt, e_ifT, e_ifF, not_true_eq_false, not_false_eq_true, e_gd, (needGarden_eq hp hC ha1 ha2).1 x1]
          exact ok_someI ⟨rfl, H⟩
        · simp (disch := omega) only [e_bi, e_bind, e_let, e_tr, e_tl, cLm1, cLm2, cL0, cL1, cL2, cL3, cL4, cL5, cL6, cL7, cL8, cL9, cL10, cL11, cL12, cL13, cL14, cL15, cL16, cL17, cL18, cL19, cL20, cL21, cL22, cL23, cL24, cL25, cL29, cL30, cL31, cL32, cL36, cL48, cL50, cL51, cL52, cL64, cL99, cL100, cL700, cL1000, cL9999, cL10000, cI_add, cI_sub, cI_mul, cI_neg, cI_lt, cI_le, cI_eq, ne_eq, ifp, ifn, bI_p, bI_n, aZ_0, aZ_1, aZ_b, e_gdt, e_ifT, e_ifF, not_true_eq_false, not_false_eq_true, e_gd, (needGarden_eq hp hC ha1 ha2).1 x1]
          exact ok_someI ⟨rfl, H⟩
      · have H0 := H.code (x := cI 0)
        have hM0 := H0.2.2.2.2.1
        unfold f_X12_days
        simp (disch := omega) only [e_bi, e_bind, e_let, e_tr, e_tl, cLm1, cLm2, cL0, cL1, cL2, cL3, cL4, cL5, cL6, cL7, cL8, cL9, cL10, cL11, cL12, cL13, cL14, cL15, cL16, cL17, cL18, cL19, cL20, cL21, cL22, cL23, cL24, cL25, cL29, cL30, cL31, cL32, cL36, cL48, cL50, cL51, cL52, cL64, cL99, cL100, cL700, cL1000, cL9999, cL10000, cI_add, cI_sub, cI_mul, cI_neg, cI_lt, cI_le, cI_eq, ne_eq, ifp, ifn, bI_p, bI_n, aZ_0, aZ_1, aZ_b, e_gdt, e_ifT, e_ifF, not_true_eq_false, not_false_eq_true, e_gd, isGarden_eq hp hM0, isIn_eq, fail_eq]
        exact ok_someI ⟨gI_eq, rfl, T, K, L, B, H0.code⟩
  · refine hp_step2 (fc := f_X11_days (cI a) v2 (cI z) D) (fm := fun D => f_X12_days (cI a) v2 (cI z) D) (P := lawP) (C := rel T K L B) (by decide) (.inr false) (fun D x h => h) ?_ (fun D H => ?_)
    · unfold f_X11_days
      simp (disch := omega) only [e_bi, e_bind, e_let, e_tr, e_tl, cLm1, cLm2, cL0, cL1, cL2, cL3, cL4, cL5, cL6, cL7, cL8, cL9, cL10, cL11, cL12, cL13, cL14, cL15, cL16, cL17, cL18, cL19, cL20, cL21, cL22, cL23, cL24, cL25, cL29, cL30, cL31, cL32, cL36, cL48, cL50, cL51, cL52, cL64, cL99, cL100, cL700, cL1000, cL9999, cL10000, cI_add, cI_sub, cI_mul, cI_neg, cI_lt, cI_le, cI_eq, ne_eq, ifp, ifn, bI_p, bI_n, aZ_0, aZ_1, aZ_b, e_gdt, e_ifT, e_ifF, not_true_eq_false, not_false_eq_true, e_gd, (needGarden_eq hp hC ha1 ha2).2 x1]
      exact ok_someI ⟨rfl, H⟩
    · have H0 := H.code (x := cI 0)
      have hM0 := H0.2.2.2.2.1
      unfold f_X12_days
      simp (disch := omega) only [e_bi, e_bind, e_let, e_tr, e_tl, cLm1, cLm2, cL0, cL1, cL2, cL3, cL4, cL5, cL6, cL7, cL8, cL9, cL10, cL11, cL12, cL13, cL14, cL15, cL16, cL17, cL18, cL19, cL20, cL21, cL22, cL23, cL24, cL25, cL29, cL30, cL31, cL32, cL36, cL48, cL50, cL51, cL52, cL64, cL99, cL100, cL700, cL1000, cL9999, cL10000, cI_add, cI_sub, cI_mul, cI_neg, cI_lt, cI_le, cI_eq, ne_eq, ifp, ifn, bI_p, bI_n, aZ_0, aZ_1, aZ_b, e_gdt, e_ifT, e_ifF, not_true_eq_false, not_false_eq_true, e_gd, isGarden_eq hp hM0, fail_eq]
      exact ok_someI ⟨gI_eq, rfl, T, K, L, B, H0.code⟩
end DYS
