/-! the walk: sums by winds, on both sides, for a town or one that is tried -/
section CON
theorem al_s {T : aT} {f t w : Int} (hp : TOKs T) (h1 : 0 ≤ f) (h2 : f < T 0 0 * T 0 1) (h3 : 0 ≤ t) (h4 : t < T 0 0 * T 0 1) : -7 ≤ alN T f t w ∧ alN T f t w ≤ 7 := by
  have a := xy_s hp h1 h2
  have b := xy_s hp h3 h4
  unfold alN
  split
  · omega
  · split
    · omega
    · split
      · omega
      · split <;> omega
theorem st_s {T : aT} {f t : Int} (hp : TOKs T) (h1 : 0 ≤ f) (h2 : f < T 0 0 * T 0 1) (h3 : 0 ≤ t) (h4 : t < T 0 0 * T 0 1) : 0 ≤ stN T f t ∧ stN T f t ≤ 14 := by
  have a := xy_s hp h1 h2
  have b := xy_s hp h3 h4
  unfold stN abI
  split <;> split <;> omega
theorem rw_s {T : aT} {s m f t w : Int} (hp : TOKs T) (hs1 : 0 ≤ s) (hs2 : s < T 0 2) (hm : m = 1 ∨ m = 3) (h1 : 0 ≤ f) (h2 : f < T 0 0 * T 0 1) (h3 : 0 ≤ t) (h4 : t < T 0 0 * T 0 1) : -400 ≤ rwN T s m f t w ∧ rwN T s m f t w ≤ 360 := by
  have hq := hp.1
  have hr := hp.2.2.1 s.toNat (by omega)
  have a := al_s (w := w) hp h1 h2 h3 h4
  have b := st_s hp h1 h2 h3 h4
  have c := mulB (show 0 ≤ T 0 6 by omega) (show T 0 6 ≤ 20 by omega) b.1 b.2
  have d := mulS (show 0 ≤ T 0 7 by omega) (show T 0 7 ≤ 9 by omega) a.1 a.2
  unfold rwN
  rcases hm with rfl | rfl <;> omega
theorem sc_s {T : aT} {s m f t week hour w : Int} (hp : TOKs T) (hs1 : 0 ≤ s) (hs2 : s < T 0 2) (hm : m = 1 ∨ m = 3) (h1 : 0 ≤ f) (h2 : f < T 0 0 * T 0 1) (h3 : 0 ≤ t) (h4 : t < T 0 0 * T 0 1) : 0 ≤ scN T s m f t week hour w ∧ scN T s m f t week hour w ≤ 360 := by
  have a := rw_s (w := w) hp hs1 hs2 hm h1 h2 h3 h4
  unfold scN mxI
  split
  · split <;> omega
  · omega
theorem sm_s {T : aT} {p : Nat} {cell hour w : Int} (hp : TOKs T) (hP : (p : Int) < T 0 4) (h3 : 0 ≤ cell) (h4 : cell < T 0 0 * T 0 1) : 0 ≤ smN T p cell hour w ∧ smN T p cell hour w ≤ 360 := by
  have hr := hp.2.2.2.1 p hP
  unfold smN
  split
  · omega
  · exact sc_s hp (by omega) (by omega) (by split <;> omega) (by omega) (by omega) h3 h4
theorem raw_s {T : aT} {cell hour w : Int} (hp : TOKs T) (h3 : 0 ≤ cell) (h4 : cell < T 0 0 * T 0 1) : bB (rawN T cell hour w) (ownN T cell hour w) := by
  have hq := hp.1
  exact ac_b (by omega) (fun p hp2 => by have := hp.2.2.2.1 p (by omega); omega) (fun p hp2 => sm_s hp (by omega) h3 h4)
/-- a town that differs in its plants alone -/
def scn (T T' : aT) : Prop := (∀ j : Nat, j ≠ 4 → T' 0 j = T 0 j) ∧ (∀ k : Nat, 1 ≤ k → k ≤ 7 → T' k = T k) ∧ T' 11 = T 11 ∧ T' 12 = T 12 ∧ T' 14 = T 14 ∧ T' 15 = T 15
theorem scn.rf {T : aT} : scn T T := ⟨fun _ _ => rfl, fun _ _ _ => rfl, rfl, rfl, rfl, rfl⟩
theorem al_cg {T T' : aT} {f t w : Int} (h : scn T T') : alN T' f t w = alN T f t w := by
  unfold alN
  rw [h.1 0 (by omega)]
theorem rw_cg {T T' : aT} {s m f t w : Int} (h : scn T T') : rwN T' s m f t w = rwN T s m f t w := by
  unfold rwN stN
  rw [al_cg h, h.1 0 (by omega), h.1 6 (by omega), h.1 7 (by omega), h.2.1 1 (by omega) (by omega)]
theorem on_cg {T T' : aT} {s wk u : Int} (h : scn T T') : onN T' s wk u = onN T s wk u := by
  unfold onN
  rw [h.2.1 2 (by omega) (by omega), h.2.1 3 (by omega) (by omega), h.2.1 4 (by omega) (by omega), h.2.1 5 (by omega) (by omega)]
theorem sc_cg {T T' : aT} {s m f t wk u w : Int} (h : scn T T') : scN T' s m f t wk u w = scN T s m f t wk u w := by
  unfold scN
  by_cases c : onN T s wk u ∧ -(alN T f t w) ≤ T 0 8
  · rw [ifp c, ifp (by rw [on_cg h, al_cg h, h.1 8 (by omega)]; exact c), rw_cg h]
  · rw [ifn c, ifn (by rw [on_cg h, al_cg h, h.1 8 (by omega)]; exact c)]
theorem mr_cg {T T' : aT} {R O : Nat → Int} {g : Nat} (h : scn T T') : mrN T' R O g = mrN T R O g := by
  unfold mrN lkN lsN ntN mkN maN
  rw [h.1 2 (by omega), h.1 9 (by omega), h.2.1 6 (by omega) (by omega), h.2.2.2.1]
theorem mr_b {T : aT} {R O : Nat → Int} {g : Nat} (hT : ∀ m : Nat, m < 36 → 0 ≤ T 12 m ∧ T 12 m ≤ 100) (hS : 0 ≤ T 0 2 ∧ T 0 2 ≤ 6) (hL : ∀ s : Nat, (s : Int) < T 0 2 → -9 ≤ T 6 s ∧ T 6 s ≤ 9) (hB : bB R O) (hg : g < 5) : -252720 ≤ mrN T R O g ∧ mrN T R O g ≤ 252720 := by
  have h := sg_bs (f := lkN T R O g) (B := 42120) (T 0 2).toNat (fun s hs => lk_b hT hS (hL s (by omega)) hB hg (by omega))
  unfold mrN
  omega
theorem share0 {T : aT} {R O : Nat → Int} {g s : Nat} : lsN T R O g s 0 = 0 := by
  unfold lsN
  split
  · rfl
  · simp
theorem addMarks_ok {D : aD} {T : aT} {R O U : Nat → Int} {a : Nat} (ha : a = 66 ∨ a = 77) (hp : TOKp T) (hC : CP D 2 T) (hN : bN D R O) (hB : bB R O) (hU : ∀ g : Nat, g < 5 → gI D a g = cI (U g)) :
    Ok (f_X0_addMarks a 5 D) (fun D' => (∀ g : Nat, g < 5 → gI D' a g = cI (U g + if (g : Int) < T 0 3 then mrN T R O g else 0)) ∧ ∀ k j : Nat, k ≠ a → gI D' k j = gI D k j) := by
  have hq := hp.1
  have hT := hp.2.2.2.2.2
  unfold f_X0_addMarks J_X0_addMarks_2
  refine ok_bindI (ok_lp (fun i t => t.1 = cI (i : Int) ∧ (∀ g : Nat, g < 5 → gI t.2 a g = cI (U g + if (g : Int) < T 0 3 then sgN i (lkN T R O g) else 0)) ∧ ∀ k j : Nat, k ≠ a → gI t.2 k j = gI D k j) (T 0 2).toNat (by omega) ⟨rfl, fun g hg => by rw [hU g hg, sgN]; split <;> rw [Int.add_zero], fun _ _ _ => rfl⟩ ?_)
  rintro i ⟨x, D1⟩ hi ⟨rfl, h1, h2⟩
  show Ok (B_X0_addMarks_2 a 5 (cI (i : Int)) D1) _
  have hC1 : CP D1 2 T := hC.fr hp (fun k j hk => h2 _ j (by omega))
  have hN1 : bN D1 R O := hN.fr (fun j => h2 _ j (by omega)) (fun j => h2 _ j (by omega))
  obtain ⟨-, -, q3, -⟩ := CP.two hC1
  unfold B_X0_addMarks_2
  by_cases c : (i : Int) < T 0 2
  · have m := mk_b (s := i) hT (by omega) hB (by omega)
    have r := hB.1 i (by omega)
    have n := nt_b (T := T) m.1 (show mkN T R i ≤ 4680 by omega)
    simp (disch := omega) only [e_bi, e_bind, e_let, e_tr, e_tl, cLm1, cLm2, cL0, cL1, cL2, cL3, cL4, cL5, cL6, cL7, cL8, cL9, cL10, cL11, cL12, cL13, cL14, cL15, cL16, cL17, cL18, cL19, cL20, cL21, cL22, cL23, cL24, cL25, cL29, cL30, cL31, cL32, cL36, cL48, cL50, cL51, cL52, cL64, cL99, cL100, cL700, cL1000, cL9999, cL10000, cI_add, cI_sub, cI_mul, cI_neg, cI_lt, cI_le, cI_eq, ne_eq, ifp, ifn, bI_p, bI_n, aZ_0, aZ_1, aZ_b, e_gdt, e_ifT, e_ifF, not_true_eq_false, not_false_eq_true, e_gd, q3, masked_eq hp hC1 hN1 hB, noticed_eq hp hC1]
    unfold J_X0_addMarks_26
    have fin : ∀ D2 : aD, (∀ g : Nat, g < 5 → gI D2 a g = cI (U g + if (g : Int) < T 0 3 then sgN (i + 1) (lkN T R O g) else 0)) → (∀ k j : Nat, k ≠ a → gI D2 k j = gI D k j) → Ok (J_X0_addMarks_63 a 5 (cI (i : Int)) D2) (fun r => (∃ s', r = .inl s' ∧ i < (T 0 2).toNat ∧ (fun (i : Nat) (t : Int32 × aD) => t.1 = cI (i : Int) ∧ (∀ g : Nat, g < 5 → gI t.2 a g = cI (U g + if (g : Int) < T 0 3 then sgN i (lkN T R O g) else 0)) ∧ ∀ k j : Nat, k ≠ a → gI t.2 k j = gI D k j) (i + 1) s') ∨ ∃ q, r = .inr q ∧ Ok (J_X0_addMarks_69 a 5 q) (fun D' => (∀ g : Nat, g < 5 → gI D' a g = cI (U g + if (g : Int) < T 0 3 then mrN T R O g else 0)) ∧ ∀ k j : Nat, k ≠ a → gI D' k j = gI D k j)) := by
      intro D2 g1 g2
      unfold J_X0_addMarks_63
      simp only [cL1, e_let, cI_add]
      exact ok_someI (Or.inl ⟨_, rfl, by omega, rfl, g1, g2⟩)
    by_cases z : ntN T (mkN T R i) = 0
    · have z2 : ∀ g : Nat, lkN T R O g i = 0 := fun g => by unfold lkN; rw [z]; exact share0
      refine ok_bindI (ok_lp (fun j t => t = (cI 0, D1)) 0 (by omega) rfl ?_)
      rintro j s hj rfl
      show Ok (B_X0_addMarks_26 a 5 (cI (i : Int)) (cI (ntN T (mkN T R i))) (cI 0) D1) _
      unfold B_X0_addMarks_26
      rw [z]
      simp (disch := omega) only [e_bi, e_bind, e_let, e_tr, e_tl, cLm1, cLm2, cL0, cL1, cL2, cL3, cL4, cL5, cL6, cL7, cL8, cL9, cL10, cL11, cL12, cL13, cL14, cL15, cL16, cL17, cL18, cL19, cL20, cL21, cL22, cL23, cL24, cL25, cL29, cL30, cL31, cL32, cL36, cL48, cL50, cL51, cL52, cL64, cL99, cL100, cL700, cL1000, cL9999, cL10000, cI_add, cI_sub, cI_mul, cI_neg, cI_lt, cI_le, cI_eq, ne_eq, ifp, ifn, bI_p, bI_n, aZ_0, aZ_1, aZ_b, e_gdt, e_ifT, e_ifF, not_true_eq_false, not_false_eq_true, e_gd]
      refine ok_someI (Or.inr ⟨_, rfl, fin D1 (fun g hg => ?_) h2⟩)
      rw [h1 g hg, sgN, z2 g, Int.add_zero]
    · refine ok_bindI (ok_lp (fun j t => t.1 = cI (j : Int) ∧ (∀ g : Nat, g < 5 → gI t.2 a g = cI (U g + if (g : Int) < T 0 3 then (if g < j then sgN (i + 1) (lkN T R O g) else sgN i (lkN T R O g)) else 0)) ∧ ∀ k j : Nat, k ≠ a → gI t.2 k j = gI D k j) (T 0 3).toNat (by omega) ⟨rfl, fun g hg => by rw [h1 g hg]; simp, h2⟩ ?_)
      rintro j ⟨x, D2⟩ hj ⟨rfl, g1, g2⟩
      show Ok (B_X0_addMarks_26 a 5 (cI (i : Int)) (cI (ntN T (mkN T R i))) (cI (j : Int)) D2) _
      have hC2 : CP D2 2 T := hC.fr hp (fun k j hk => g2 _ j (by omega))
      have hN2 : bN D2 R O := hN.fr (fun j => g2 _ j (by omega)) (fun j => g2 _ j (by omega))
      obtain ⟨-, -, p3, -⟩ := CP.two hC2
      have e : ((j : Int)).toNat = j := by omega
      unfold B_X0_addMarks_26
      by_cases d : (j : Int) < T 0 3
      · have g9 := g1 j (by omega)
        rw [if_pos d, if_neg (by omega)] at g9
        simp (disch := omega) only [e_bi, e_bind, e_let, e_tr, e_tl, cLm1, cLm2, cL0, cL1, cL2, cL3, cL4, cL5, cL6, cL7, cL8, cL9, cL10, cL11, cL12, cL13, cL14, cL15, cL16, cL17, cL18, cL19, cL20, cL21, cL22, cL23, cL24, cL25, cL29, cL30, cL31, cL32, cL36, cL48, cL50, cL51, cL52, cL64, cL99, cL100, cL700, cL1000, cL9999, cL10000, cI_add, cI_sub, cI_mul, cI_neg, cI_lt, cI_le, cI_eq, ne_eq, ifp, ifn, bI_p, bI_n, aZ_0, aZ_1, aZ_b, e_gdt, e_ifT, e_ifF, not_true_eq_false, not_false_eq_true, e_gd, p3, cI_inT, cI_nat, e, share_eq hp hC2 hN2 hB, g9]
        refine ok_someI (Or.inl ⟨_, rfl, by omega, rfl, fun g hg => ?_, fun k j' hk => (gI_fr (by omega)).trans (g2 k j' hk)⟩)
        show gI (pI D2 a j _) a g = _
        by_cases e2 : g = j
        · subst e2
          rw [gI_eq, if_pos d, if_pos (by omega), sgN, Int.add_assoc]
          rfl
        · rw [gI_fr (by omega), g1 g hg]
          by_cases e3 : g < j
          · rw [if_pos e3, if_pos (show g < j + 1 by omega)]
          · rw [if_neg e3, if_neg (show ¬ g < j + 1 by omega)]
      · simp (disch := omega) only [e_bi, e_bind, e_let, e_tr, e_tl, cLm1, cLm2, cL0, cL1, cL2, cL3, cL4, cL5, cL6, cL7, cL8, cL9, cL10, cL11, cL12, cL13, cL14, cL15, cL16, cL17, cL18, cL19, cL20, cL21, cL22, cL23, cL24, cL25, cL29, cL30, cL31, cL32, cL36, cL48, cL50, cL51, cL52, cL64, cL99, cL100, cL700, cL1000, cL9999, cL10000, cI_add, cI_sub, cI_mul, cI_neg, cI_lt, cI_le, cI_eq, ne_eq, ifp, ifn, bI_p, bI_n, aZ_0, aZ_1, aZ_b, e_gdt, e_ifT, e_ifF, not_true_eq_false, not_false_eq_true, e_gd, p3]
        refine ok_someI (Or.inr ⟨_, rfl, fin D2 (fun g hg => ?_) g2⟩)
        rw [g1 g hg]
        by_cases e3 : (g : Int) < T 0 3
        · rw [if_pos e3, if_pos e3, if_pos (by omega)]
        · rw [if_neg e3, if_neg e3]
  · simp (disch := omega) only [e_bi, e_bind, e_let, e_tr, e_tl, cLm1, cLm2, cL0, cL1, cL2, cL3, cL4, cL5, cL6, cL7, cL8, cL9, cL10, cL11, cL12, cL13, cL14, cL15, cL16, cL17, cL18, cL19, cL20, cL21, cL22, cL23, cL24, cL25, cL29, cL30, cL31, cL32, cL36, cL48, cL50, cL51, cL52, cL64, cL99, cL100, cL700, cL1000, cL9999, cL10000, cI_add, cI_sub, cI_mul, cI_neg, cI_lt, cI_le, cI_eq, ne_eq, ifp, ifn, bI_p, bI_n, aZ_0, aZ_1, aZ_b, e_gdt, e_ifT, e_ifF, not_true_eq_false, not_false_eq_true, e_gd, q3]
    obtain rfl : i = (T 0 2).toNat := by omega
    exact ok_someI (Or.inr ⟨_, rfl, ok_someI ⟨h1, h2⟩⟩)
end CON
