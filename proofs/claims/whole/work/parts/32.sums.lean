/-! sums of a wind on both sides; who is first; sum, winner, prize -/
section SUM
def smR (T : aT) (o : Nat → Int) (w g : Nat) : Int := sgN (T 0 5).toNat (fun i => mrN T (rawN T (T 11 (o i).toNat) (hrN T i) w) (ownN T (T 11 (o i).toNat) (hrN T i) w) g)
def smW (T : aT) (w g : Nat) : Int := smR T (T 14) w g
def smG (T : aT) (w g : Nat) : Int := if (g : Int) < T 0 3 then smW T w g else 0
theorem smR_b {T : aT} {o : Nat → Int} {w g : Nat} (hp : TOKs T) (ho : ∀ i : Nat, (i : Int) < T 0 5 → 0 ≤ o i ∧ o i < T 0 5) (hg : g < 5) : -1263600 ≤ smR T o w g ∧ smR T o w g ≤ 1263600 := by
  have hq := hp.1
  have h := sg_bs (f := fun i => mrN T (rawN T (T 11 (o i).toNat) (hrN T i) w) (ownN T (T 11 (o i).toNat) (hrN T i) w) g) (B := 252720) (T 0 5).toNat (fun i hi => by
    have a := ho i (by omega)
    have b := hp.2.2.2.2.1 (o i).toNat (by omega)
    exact mr_b hp.2.2.2.2.2.1 (by omega) (fun s hs => by have := hp.2.2.1 s hs; omega) (raw_s hp b.1 b.2) hg)
  unfold smR
  omega
theorem smG_b {T : aT} {w g : Nat} (hp : TOKs T) (hg : g < 5) : -1263600 ≤ smG T w g ∧ smG T w g ≤ 1263600 := by
  have h := smR_b (o := T 14) (w := w) hp (fun i hi => hp.2.2.2.2.2.2.2 i hi) hg
  unfold smG smW
  split <;> omega
theorem addUp_ok {D : aD} {T T' : aT} {W : Nat → Prop} {w : Nat} (hp : TOKp T) (hC : CP D 2 T) (hT : TOKs T') (hs : scn T T') (hK : CK D T' W) (hw : W w) (hw5 : w < 5) (h12 : T' 0 4 ≤ 12) :
    Ok (f_X1_addUp (cI (w : Int)) D) (fun D' => (∀ g : Nat, g < 5 → gI D' 66 g = cI (smG T' w g)) ∧ ∀ k j : Nat, k ≠ 58 → k ≠ 59 → k ≠ 66 → gI D' k j = gI D k j) := by
  have hq := hp.1
  have hq' := hT.1
  have hG : T' 0 3 = T 0 3 := hs.1 3 (by omega)
  have hQ : T' 0 5 = T 0 5 := hs.1 5 (by omega)
  unfold f_X1_addUp
  refine ok_bindI ((fill_ok (by omega)).mono fun D1 z => ?_)
  unfold J_X1_addUp_10
  refine ok_bindI (ok_lp (fun i t => t.1 = cI (i : Int) ∧ (∀ g : Nat, g < 5 → gI t.2 66 g = cI (if (g : Int) < T 0 3 then sgN i (fun i => mrN T' (rawN T' (gtN T' i) (hrN T' i) w) (ownN T' (gtN T' i) (hrN T' i) w) g) else 0)) ∧ ∀ k j : Nat, k ≠ 58 → k ≠ 59 → k ≠ 66 → gI t.2 k j = gI D k j) (T 0 5).toNat (by omega) ⟨rfl, fun g hg => by rw [z.1 g hg]; simp [sgN]; rfl, fun k j a b c => z.2.1 k j (by omega)⟩ ?_)
  rintro i ⟨x, D2⟩ hi ⟨rfl, h1, h2⟩
  show Ok (B_X1_addUp_10 (cI (w : Int)) (cI (i : Int)) D2) _
  have hC2 : CP D2 2 T := hC.fr hp (fun k j hk => h2 _ j (by omega) (by omega) (by omega))
  obtain ⟨-, -, q3, -⟩ := CP.two hC2
  unfold B_X1_addUp_10 f_X1_placeOf
  by_cases c : (i : Int) < T 0 5
  · simp (disch := omega) only [e_bi, e_bind, e_let, e_tr, e_tl, cLm1, cLm2, cL0, cL1, cL2, cL3, cL4, cL5, cL6, cL7, cL8, cL9, cL10, cL11, cL12, cL13, cL14, cL15, cL16, cL17, cL18, cL19, cL20, cL21, cL22, cL23, cL24, cL25, cL29, cL30, cL31, cL32, cL36, cL48, cL50, cL51, cL52, cL64, cL99, cL100, cL700, cL1000, cL9999, cL10000, cI_add, cI_sub, cI_mul, cI_neg, cI_lt, cI_le, cI_eq, ne_eq, ifp, ifn, bI_p, bI_n, aZ_0, aZ_1, aZ_b, e_gdt, e_ifT, e_ifF, not_true_eq_false, not_false_eq_true, e_gd, q3]
    refine ok_bindI (clear_ok.mono fun D3 y => ?_)
    unfold J_X1_addUp_37
    have V : ∀ p : Nat, Int := fun p => smN T' p (gtN T' i) (hrN T' i) w
    refine ok_bindI (ok_lp (fun n t => t.1 = cI (n : Int) ∧ bN t.2 (acR (T' 8) (fun p => smN T' p (gtN T' i) (hrN T' i) w) n) (acO (T' 8) (T' 10) (fun p => smN T' p (gtN T' i) (hrN T' i) w) n) ∧ ∀ k j : Nat, k ≠ 58 → k ≠ 59 → gI t.2 k j = gI D2 k j) (T' 0 4).toNat (by omega) ⟨rfl, y.1, y.2⟩ ?_)
    rintro n ⟨x, D4⟩ hn ⟨rfl, b1, b2⟩
    show Ok (B_X1_addUp_37 (cI (w : Int)) (cI (i : Int)) (cI (((w : Int) * 5 + i) * 12)) (cI (n : Int)) D4) _
    have k60 : gI D4 60 3 = cI (T' 0 4) := (b2 _ _ (by omega) (by omega)).trans ((h2 _ _ (by omega) (by omega) (by omega)).trans hK.1)
    have e : ((n : Int)).toNat = n := by omega
    by_cases d : (n : Int) < T' 0 4
    · have r := hT.2.2.2.1 n d
      obtain ⟨a1, a2, a3⟩ := hK.2.1 n d
      obtain ⟨t1, t3⟩ := hK.2.2 w i n ⟨hw, hw5, d⟩ (by omega)
      have fr : ∀ k j : Nat, k ≠ 58 → k ≠ 59 → k ≠ 66 → gI D4 k j = gI D k j := fun k j a b c => (b2 k j a b).trans (h2 k j a b c)
      have a1' : gI D4 61 n = cI (T' 8 n) := (fr _ _ (by omega) (by omega) (by omega)).trans a1
      have a2' : gI D4 62 n = cI (T' 10 n) := (fr _ _ (by omega) (by omega) (by omega)).trans a2
      have a3' : gI D4 63 n = cI (T' 13 n) := (fr _ _ (by omega) (by omega) (by omega)).trans a3
      have t1' : gI D4 64 ((w * 5 + i) * 12 + n) = cI (frN T' 1 w i n) := (fr _ _ (by omega) (by omega) (by omega)).trans t1
      have t3' : gI D4 65 ((w * 5 + i) * 12 + n) = cI (frN T' 3 w i n) := (fr _ _ (by omega) (by omega) (by omega)).trans t3
      have ex : (((w : Int) * 5 + (i : Int)) * 12 + (n : Int)).toNat = (w * 5 + i) * 12 + n := by omega
      have o := hT.2.2.2.2.2.2.2 i (by omega)
      have g := hT.2.2.2.2.1 (T' 14 i).toNat (by omega)
      have sb := sm_s (p := n) (hour := hrN T' i) (w := (w : Int)) hT d g.1 g.2
      have ev : Ok (J_X1_addUp_91 (cI (w : Int)) (cI (i : Int)) (cI (((w : Int) * 5 + i) * 12)) (cI (n : Int)) (cI (smN T' n (gtN T' i) (hrN T' i) w)) D4) (fun r => (∃ s', r = .inl s' ∧ n < (T' 0 4).toNat ∧ (fun (n : Nat) (t : Int32 × aD) => t.1 = cI (n : Int) ∧ bN t.2 (acR (T' 8) (fun p => smN T' p (gtN T' i) (hrN T' i) w) n) (acO (T' 8) (T' 10) (fun p => smN T' p (gtN T' i) (hrN T' i) w) n) ∧ ∀ k j : Nat, k ≠ 58 → k ≠ 59 → gI t.2 k j = gI D2 k j) (n + 1) s') ∨ ∃ q, r = .inr q ∧ Ok (J_X1_addUp_127 (cI (w : Int)) (cI (i : Int)) q) (fun r => (∃ s', r = .inl s' ∧ i < (T 0 5).toNat ∧ (fun (i : Nat) (t : Int32 × aD) => t.1 = cI (i : Int) ∧ (∀ g : Nat, g < 5 → gI t.2 66 g = cI (if (g : Int) < T 0 3 then sgN i (fun i => mrN T' (rawN T' (gtN T' i) (hrN T' i) w) (ownN T' (gtN T' i) (hrN T' i) w) g) else 0)) ∧ ∀ k j : Nat, k ≠ 58 → k ≠ 59 → k ≠ 66 → gI t.2 k j = gI D k j) (i + 1) s') ∨ ∃ q, r = .inr q ∧ Ok (J_X1_addUp_144 q) (fun D' => (∀ g : Nat, g < 5 → gI D' 66 g = cI (smG T' w g)) ∧ ∀ k j : Nat, k ≠ 58 → k ≠ 59 → k ≠ 66 → gI D' k j = gI D k j))) := by
        unfold gtN at sb ⊢
        unfold J_X1_addUp_91
        by_cases z0 : 0 < smN T' n (T' 11 (T' 14 i).toNat) (hrN T' i) w
        · simp (disch := omega) only [e_bi, e_bind, e_let, e_tr, e_tl, cLm1, cLm2, cL0, cL1, cL2, cL3, cL4, cL5, cL6, cL7, cL8, cL9, cL10, cL11, cL12, cL13, cL14, cL15, cL16, cL17, cL18, cL19, cL20, cL21, cL22, cL23, cL24, cL25, cL29, cL30, cL31, cL32, cL36, cL48, cL50, cL51, cL52, cL64, cL99, cL100, cL700, cL1000, cL9999, cL10000, cI_add, cI_sub, cI_mul, cI_neg, cI_lt, cI_le, cI_eq, ne_eq, ifp, ifn, bI_p, bI_n, aZ_0, aZ_1, aZ_b, e_gdt, e_ifT, e_ifF, not_true_eq_false, not_false_eq_true, e_gd, cI_inT, cI_nat, e, a1', a2']
          refine ok_bindI ((add_ok b1 (by omega) (by omega) (by omega) (by omega)).mono fun D5 q => ok_someI (Or.inl ⟨_, rfl, by omega, rfl, q.1, fun k j a b => (q.2 k j a b).trans (b2 k j a b)⟩))
        · have z1 : smN T' n (T' 11 (T' 14 i).toNat) (hrN T' i) w = 0 := by omega
          simp (disch := omega) only [e_bi, e_bind, e_let, e_tr, e_tl, cLm1, cLm2, cL0, cL1, cL2, cL3, cL4, cL5, cL6, cL7, cL8, cL9, cL10, cL11, cL12, cL13, cL14, cL15, cL16, cL17, cL18, cL19, cL20, cL21, cL22, cL23, cL24, cL25, cL29, cL30, cL31, cL32, cL36, cL48, cL50, cL51, cL52, cL64, cL99, cL100, cL700, cL1000, cL9999, cL10000, cI_add, cI_sub, cI_mul, cI_neg, cI_lt, cI_le, cI_eq, ne_eq, ifp, ifn, bI_p, bI_n, aZ_0, aZ_1, aZ_b, e_gdt, e_ifT, e_ifF, not_true_eq_false, not_false_eq_true, e_gd]
          refine ok_someI (Or.inl ⟨_, rfl, by omega, rfl, b1.cg (fun j hj => ?_) (fun k hk => ?_), b2⟩)
          · unfold acR gtN
            rw [sgN]
            show _ + (if T' 8 n = (j : Int) then smN T' n (T' 11 (T' 14 i).toNat) (hrN T' i) w else 0) = _
            rw [z1]
            split <;> exact Int.add_zero _
          · unfold acO gtN
            rw [sgN]
            show _ + (if T' 10 n ≠ -1 ∧ T' 10 n * 6 + T' 8 n = (k : Int) then smN T' n (T' 11 (T' 14 i).toNat) (hrN T' i) w else 0) = _
            rw [z1]
            split <;> exact Int.add_zero _
      have sm : smN T' n (gtN T' i) (hrN T' i) w = if T' 13 n = 1 then 0 else if T' 13 n = 2 then frN T' 3 w i n else frN T' 1 w i n := by
        unfold smN frN
        by_cases s1 : T' 13 n = 1
        · rw [if_pos s1, if_pos s1]
        · rw [if_neg s1, if_neg s1]
          by_cases s2 : T' 13 n = 2
          · rw [if_pos s2, if_pos s2]
          · rw [if_neg s2, if_neg s2]
      unfold B_X1_addUp_37
      by_cases s1 : T' 13 n = 1
      · rw [if_pos s1] at sm
        simp (disch := omega) only [e_bi, e_bind, e_let, e_tr, e_tl, cLm1, cLm2, cL0, cL1, cL2, cL3, cL4, cL5, cL6, cL7, cL8, cL9, cL10, cL11, cL12, cL13, cL14, cL15, cL16, cL17, cL18, cL19, cL20, cL21, cL22, cL23, cL24, cL25, cL29, cL30, cL31, cL32, cL36, cL48, cL50, cL51, cL52, cL64, cL99, cL100, cL700, cL1000, cL9999, cL10000, cI_add, cI_sub, cI_mul, cI_neg, cI_lt, cI_le, cI_eq, ne_eq, ifp, ifn, bI_p, bI_n, aZ_0, aZ_1, aZ_b, e_gdt, e_ifT, e_ifF, not_true_eq_false, not_false_eq_true, e_gd, k60, cI_inT, cI_nat, e, a3']
        rw [sm] at ev
        exact ev
      · rw [if_neg s1] at sm
        by_cases s2 : T' 13 n = 2
        · rw [if_pos s2] at sm
          simp (disch := omega) only [e_bi, e_bind, e_let, e_tr, e_tl, cLm1, cLm2, cL0, cL1, cL2, cL3, cL4, cL5, cL6, cL7, cL8, cL9, cL10, cL11, cL12, cL13, cL14, cL15, cL16, cL17, cL18, cL19, cL20, cL21, cL22, cL23, cL24, cL25, cL29, cL30, cL31, cL32, cL36, cL48, cL50, cL51, cL52, cL64, cL99, cL100, cL700, cL1000, cL9999, cL10000, cI_add, cI_sub, cI_mul, cI_neg, cI_lt, cI_le, cI_eq, ne_eq, ifp, ifn, bI_p, bI_n, aZ_0, aZ_1, aZ_b, e_gdt, e_ifT, e_ifF, not_true_eq_false, not_false_eq_true, e_gd, k60, cI_inT, cI_nat, e, ex, a3', t3']
          rw [sm] at ev
          exact ev
        · rw [if_neg s2] at sm
          simp (disch := omega) only [e_bi, e_bind, e_let, e_tr, e_tl, cLm1, cLm2, cL0, cL1, cL2, cL3, cL4, cL5, cL6, cL7, cL8, cL9, cL10, cL11, cL12, cL13, cL14, cL15, cL16, cL17, cL18, cL19, cL20, cL21, cL22, cL23, cL24, cL25, cL29, cL30, cL31, cL32, cL36, cL48, cL50, cL51, cL52, cL64, cL99, cL100, cL700, cL1000, cL9999, cL10000, cI_add, cI_sub, cI_mul, cI_neg, cI_lt, cI_le, cI_eq, ne_eq, ifp, ifn, bI_p, bI_n, aZ_0, aZ_1, aZ_b, e_gdt, e_ifT, e_ifF, not_true_eq_false, not_false_eq_true, e_gd, k60, cI_inT, cI_nat, e, ex, a3', t1']
          rw [sm] at ev
          exact ev
    · have ev : B_X1_addUp_37 (cI (w : Int)) (cI (i : Int)) (cI (((w : Int) * 5 + i) * 12)) (cI (n : Int)) D4 = some (.inr D4) := by
        unfold B_X1_addUp_37
        simp (disch := omega) only [e_bi, e_bind, e_let, e_tr, e_tl, cLm1, cLm2, cL0, cL1, cL2, cL3, cL4, cL5, cL6, cL7, cL8, cL9, cL10, cL11, cL12, cL13, cL14, cL15, cL16, cL17, cL18, cL19, cL20, cL21, cL22, cL23, cL24, cL25, cL29, cL30, cL31, cL32, cL36, cL48, cL50, cL51, cL52, cL64, cL99, cL100, cL700, cL1000, cL9999, cL10000, cI_add, cI_sub, cI_mul, cI_neg, cI_lt, cI_le, cI_eq, ne_eq, ifp, ifn, bI_p, bI_n, aZ_0, aZ_1, aZ_b, e_gdt, e_ifT, e_ifF, not_true_eq_false, not_false_eq_true, e_gd, k60]
      rw [ev]
      refine ok_someI (Or.inr ⟨_, rfl, ?_⟩)
      obtain rfl : n = (T' 0 4).toNat := by omega
      unfold J_X1_addUp_127
      have o := hT.2.2.2.2.2.2.2 i (by omega)
      have g := hT.2.2.2.2.1 (T' 14 i).toNat (by omega)
      have hC4 : CP D4 2 T := hC2.fr hp (fun k j hk => b2 _ j (by omega) (by omega))
      refine ok_bindI ((addMarks_ok (R := rawN T' (gtN T' i) (hrN T' i) w) (O := ownN T' (gtN T' i) (hrN T' i) w) (Or.inl rfl) hp hC4 b1 (raw_s hT g.1 g.2) (fun g hg => (b2 _ _ (by omega) (by omega)).trans (h1 g hg))).mono fun D5 q => ?_)
      simp only [cL1, e_let, cI_add]
      refine ok_someI (Or.inl ⟨_, rfl, by omega, rfl, fun g hg => ?_, fun k j a b c => (q.2 k j c).trans ((b2 k j a b).trans (h2 k j a b c))⟩)
      rw [q.1 g hg]
      by_cases f : (g : Int) < T 0 3
      · rw [if_pos f, if_pos f, if_pos f, sgN]
        show cI (_ + mrN T _ _ g) = cI (_ + mrN T' _ _ g)
        rw [mr_cg hs]
      · rw [if_neg f, if_neg f, if_neg f]
        rfl
  · simp (disch := omega) only [e_bi, e_bind, e_let, e_tr, e_tl, cLm1, cLm2, cL0, cL1, cL2, cL3, cL4, cL5, cL6, cL7, cL8, cL9, cL10, cL11, cL12, cL13, cL14, cL15, cL16, cL17, cL18, cL19, cL20, cL21, cL22, cL23, cL24, cL25, cL29, cL30, cL31, cL32, cL36, cL48, cL50, cL51, cL52, cL64, cL99, cL100, cL700, cL1000, cL9999, cL10000, cI_add, cI_sub, cI_mul, cI_neg, cI_lt, cI_le, cI_eq, ne_eq, ifp, ifn, bI_p, bI_n, aZ_0, aZ_1, aZ_b, e_gdt, e_ifT, e_ifF, not_true_eq_false, not_false_eq_true, e_gd, q3]
    refine ok_someI (Or.inr ⟨_, rfl, ok_someI ⟨fun g hg => ?_, h2⟩⟩)
    obtain rfl : i = (T 0 5).toNat := by omega
    rw [h1 g hg]
    unfold smG smW smR
    rw [hG, hQ]
    rfl
theorem tellSums_ok {D : aD} {T : aT} {o : Nat → Int} {a w : Nat} (hp : TOKs T) (hM : MS D T) (ha : a = 107 ∨ a = 116) (ho : ∀ i : Nat, (i : Int) < T 0 5 → gI D a i = cI (o i) ∧ 0 ≤ o i ∧ o i < T 0 5) (hw : w < 5) :
    Ok (f_X12_tellSums a 5 (cI (w : Int)) D) (fun D' => (∀ g : Nat, g < 5 → gI D' 112 g = cI (if (g : Int) < T 0 3 then smR T o w g else 0)) ∧ (∀ k j : Nat, ¬ (108 ≤ k ∧ k ≤ 112) → gI D' k j = gI D k j) ∧ D'.2 = D.2) := by
  have hq := hp.1
  have hq2 := hp.2.2.2.2.2.2.1
  unfold f_X12_tellSums J_X12_tellSums_2
  refine ok_bindI (zero_lp (a := 112) (n := 5) (q := fun D => D) (by omega) (fun i D' hi => ?_) (fun D' => ?_) (fun D1 z1 y1 x1 => ?_))
  · show B_X12_tellSums_2 a 5 (cI (w : Int)) (cI (i : Int)) D' = _
    unfold B_X12_tellSums_2
    have e : ((i : Int)).toNat = i := by omega
    simp (disch := omega) only [e_bi, e_bind, e_let, e_tr, e_tl, cLm1, cLm2, cL0, cL1, cL2, cL3, cL4, cL5, cL6, cL7, cL8, cL9, cL10, cL11, cL12, cL13, cL14, cL15, cL16, cL17, cL18, cL19, cL20, cL21, cL22, cL23, cL24, cL25, cL29, cL30, cL31, cL32, cL36, cL48, cL50, cL51, cL52, cL64, cL99, cL100, cL700, cL1000, cL9999, cL10000, cI_add, cI_sub, cI_mul, cI_neg, cI_lt, cI_le, cI_eq, ne_eq, ifp, ifn, bI_p, bI_n, aZ_0, aZ_1, aZ_b, e_gdt, e_ifT, e_ifF, not_true_eq_false, not_false_eq_true, e_gd, cI_inT, cI_nat, e]
  · rfl
  unfold J_X12_tellSums_20 J_X12_tellSums_22
  refine ok_bindI (ok_lp (fun i t => t.1 = cI (i : Int) ∧ (∀ g : Nat, g < 5 → gI t.2 112 g = cI (if (g : Int) < T 0 3 then sgN i (fun i => mrN T (rawN T (T 11 (o i).toNat) (hrN T i) w) (ownN T (T 11 (o i).toNat) (hrN T i) w) g) else 0)) ∧ (∀ k j : Nat, ¬ (108 ≤ k ∧ k ≤ 112) → gI t.2 k j = gI D k j) ∧ t.2.2 = D.2) (T 0 5).toNat (by omega) ⟨rfl, fun g hg => by rw [z1 g hg]; simp [sgN], fun k j a => y1 k j (by omega), x1⟩ ?_)
  rintro i ⟨x, D2⟩ hi ⟨rfl, h1, h2, h3⟩
  show Ok (B_X12_tellSums_22 a 5 (cI (w : Int)) (cI (i : Int)) D2) _
  have hM2 : MS D2 T := hM.fr (fun k j a => h2 k j (by omega)) (fun j a b => h2 _ j (by omega))
  have m5 := hM2.1 5 (by omega) (by omega)
  have m31 := hM2.2.2.2.2.2.2.2.2.1
  have e : ((i : Int)).toNat = i := by omega
  unfold B_X12_tellSums_22
  by_cases c : (i : Int) < T 0 5
  · obtain ⟨o1, o2, o3⟩ := ho i c
    have o1' : gI D2 a i = cI (o i) := (h2 _ _ (by omega)).trans o1
    have g := hp.2.2.2.2.1 (o i).toNat (by omega)
    have g' := hM2.2.2.2.1 (o i).toNat (by omega)
    have hr := hr_b (T := T) (i := i) hq2.1
    have hr' := hr
    unfold hrN at hr'
    simp (disch := omega) only [e_bi, e_bind, e_let, e_tr, e_tl, cLm1, cLm2, cL0, cL1, cL2, cL3, cL4, cL5, cL6, cL7, cL8, cL9, cL10, cL11, cL12, cL13, cL14, cL15, cL16, cL17, cL18, cL19, cL20, cL21, cL22, cL23, cL24, cL25, cL29, cL30, cL31, cL32, cL36, cL48, cL50, cL51, cL52, cL64, cL99, cL100, cL700, cL1000, cL9999, cL10000, cI_add, cI_sub, cI_mul, cI_neg, cI_lt, cI_le, cI_eq, ne_eq, ifp, ifn, bI_p, bI_n, aZ_0, aZ_1, aZ_b, e_gdt, e_ifT, e_ifF, not_true_eq_false, not_false_eq_true, e_gd, cX0, cX1, cX2, cX3, cX4, cX5, cX6, cX7, cX8, cX9, cX10, cX11, cX12, cX13, cX14, cX15, cX16, cX17, cX18, cX19, cX20, cX21, cX22, cX23, cX24, cX25, cX29, cX30, cX31, cX32, cX36, Int.reduceToNat, m5, cI_inT, cI_nat, e, o1', g', m31, cI_div, rem_e]
    refine ok_bindI ((tell_ok hp hM2 g.1 g.2 hr'.1 hr'.2 (by omega) (by omega) (raw_s hp g.1 g.2)).mono fun D3 q => ?_)
    obtain ⟨q1, q2, q3⟩ := q
    unfold J_X12_tellSums_57
    refine ok_bindI (ok_lp (fun j t => t.1 = cI (j : Int) ∧ (∀ g : Nat, g < 5 → gI t.2 112 g = cI (if (g : Int) < T 0 3 then (if g < j then sgN (i + 1) (fun i => mrN T (rawN T (T 11 (o i).toNat) (hrN T i) w) (ownN T (T 11 (o i).toNat) (hrN T i) w) g) else sgN i (fun i => mrN T (rawN T (T 11 (o i).toNat) (hrN T i) w) (ownN T (T 11 (o i).toNat) (hrN T i) w) g)) else 0)) ∧ (∀ k j : Nat, k ≠ 112 → gI t.2 k j = gI D3 k j) ∧ t.2.2 = D.2) (T 0 3).toNat (by omega) ⟨rfl, fun g hg => by rw [q2 112 g (by omega), h1 g hg]; simp, fun _ _ _ => rfl, q3.trans h3⟩ ?_)
    rintro j ⟨x, D4⟩ hj ⟨rfl, f1, f2, f3⟩
    show Ok (B_X12_tellSums_57 a 5 (cI (w : Int)) (cI (i : Int)) (cI (j : Int)) D4) _
    have hM4 : MS D4 T := hM2.fr (fun k j a => (f2 k j (by omega)).trans (q2 k j (by omega))) (fun j a b => (f2 _ j (by omega)).trans (q2 _ j (by omega)))
    have hP4 : mPl D4 T (rawN T (T 11 (o i).toNat) (hrN T i) w) (ownN T (T 11 (o i).toNat) (hrN T i) w) := ⟨fun j hj => (f2 _ j (by omega)).trans (q1.1 j hj), fun k hk => (f2 _ k (by omega)).trans (q1.2.1 k hk), fun s hs => ⟨(f2 _ s (by omega)).trans (q1.2.2 s hs).1, (f2 _ s (by omega)).trans (q1.2.2 s hs).2⟩⟩
    have m3 := hM4.1 3 (by omega) (by omega)
    have ej : ((j : Int)).toNat = j := by omega
    unfold B_X12_tellSums_57
    by_cases d : (j : Int) < T 0 3
    · have f9 := f1 j (by omega)
      rw [if_pos d, if_neg (by omega)] at f9
      simp (disch := omega) only [e_bi, e_bind, e_let, e_tr, e_tl, cLm1, cLm2, cL0, cL1, cL2, cL3, cL4, cL5, cL6, cL7, cL8, cL9, cL10, cL11, cL12, cL13, cL14, cL15, cL16, cL17, cL18, cL19, cL20, cL21, cL22, cL23, cL24, cL25, cL29, cL30, cL31, cL32, cL36, cL48, cL50, cL51, cL52, cL64, cL99, cL100, cL700, cL1000, cL9999, cL10000, cI_add, cI_sub, cI_mul, cI_neg, cI_lt, cI_le, cI_eq, ne_eq, ifp, ifn, bI_p, bI_n, aZ_0, aZ_1, aZ_b, e_gdt, e_ifT, e_ifF, not_true_eq_false, not_false_eq_true, e_gd, cX0, cX1, cX2, cX3, cX4, cX5, cX6, cX7, cX8, cX9, cX10, cX11, cX12, cX13, cX14, cX15, cX16, cX17, cX18, cX19, cX20, cX21, cX22, cX23, cX24, cX25, cX29, cX30, cX31, cX32, cX36, Int.reduceToNat, m3, cI_inT, cI_nat, ej, mmarkOf_eq hp hM4 hP4 (raw_s hp g.1 g.2), f9]
      refine ok_someI (Or.inl ⟨_, rfl, by omega, rfl, fun g hg => ?_, fun k j' hk => (gI_fr (by omega)).trans (f2 k j' hk), f3⟩)
      show gI (pI D4 112 j _) 112 g = _
      by_cases e2 : g = j
      · subst e2
        rw [gI_eq, if_pos d, if_pos (by omega), sgN]
      · rw [gI_fr (by omega), f1 g hg]
        by_cases e3 : g < j
        · rw [if_pos e3, if_pos (show g < j + 1 by omega)]
        · rw [if_neg e3, if_neg (show ¬ g < j + 1 by omega)]
    · simp (disch := omega) only [e_bi, e_bind, e_let, e_tr, e_tl, cLm1, cLm2, cL0, cL1, cL2, cL3, cL4, cL5, cL6, cL7, cL8, cL9, cL10, cL11, cL12, cL13, cL14, cL15, cL16, cL17, cL18, cL19, cL20, cL21, cL22, cL23, cL24, cL25, cL29, cL30, cL31, cL32, cL36, cL48, cL50, cL51, cL52, cL64, cL99, cL100, cL700, cL1000, cL9999, cL10000, cI_add, cI_sub, cI_mul, cI_neg, cI_lt, cI_le, cI_eq, ne_eq, ifp, ifn, bI_p, bI_n, aZ_0, aZ_1, aZ_b, e_gdt, e_ifT, e_ifF, not_true_eq_false, not_false_eq_true, e_gd, cX0, cX1, cX2, cX3, cX4, cX5, cX6, cX7, cX8, cX9, cX10, cX11, cX12, cX13, cX14, cX15, cX16, cX17, cX18, cX19, cX20, cX21, cX22, cX23, cX24, cX25, cX29, cX30, cX31, cX32, cX36, Int.reduceToNat, m3, cI_inT]
      refine ok_someI (Or.inr ⟨_, rfl, ?_⟩)
      unfold J_X12_tellSums_90
      simp only [cL1, e_let, cI_add]
      refine ok_someI (Or.inl ⟨_, rfl, by omega, rfl, fun g hg => ?_, fun k j a => (f2 k j (by omega)).trans ((q2 k j (by omega)).trans (h2 k j a)), f3⟩)
      rw [f1 g hg]
      by_cases e3 : (g : Int) < T 0 3
      · rw [if_pos e3, if_pos e3, if_pos (show g < j by omega)]
      · rw [if_neg e3, if_neg e3]
  · simp (disch := omega) only [e_bi, e_bind, e_let, e_tr, e_tl, cLm1, cLm2, cL0, cL1, cL2, cL3, cL4, cL5, cL6, cL7, cL8, cL9, cL10, cL11, cL12, cL13, cL14, cL15, cL16, cL17, cL18, cL19, cL20, cL21, cL22, cL23, cL24, cL25, cL29, cL30, cL31, cL32, cL36, cL48, cL50, cL51, cL52, cL64, cL99, cL100, cL700, cL1000, cL9999, cL10000, cI_add, cI_sub, cI_mul, cI_neg, cI_lt, cI_le, cI_eq, ne_eq, ifp, ifn, bI_p, bI_n, aZ_0, aZ_1, aZ_b, e_gdt, e_ifT, e_ifF, not_true_eq_false, not_false_eq_true, e_gd, cX0, cX1, cX2, cX3, cX4, cX5, cX6, cX7, cX8, cX9, cX10, cX11, cX12, cX13, cX14, cX15, cX16, cX17, cX18, cX19, cX20, cX21, cX22, cX23, cX24, cX25, cX29, cX30, cX31, cX32, cX36, Int.reduceToNat, m5, cI_inT]
    refine ok_someI (Or.inr ⟨_, rfl, ok_someI ⟨fun g hg => ?_, h2, h3⟩⟩)
    obtain rfl : i = (T 0 5).toNat := by omega
    exact h1 g hg
end SUM
