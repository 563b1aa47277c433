/-! town: the class's answer -/
section CTW
theorem x8_ok {D : aD} {a b : Nat} (hab : b ≠ a) (hz : gI D b 6 = cI 0 ∨ gI D b 6 = cI 1) : Ok (f_X8_copyFrom a b D) (fun D' => (∀ j : Nat, j < 7 → gI D' a j = gI D b j) ∧ ∀ k j : Nat, k ≠ a → gI D' k j = gI D k j) := by
  unfold f_X8_copyFrom
  simp only [e_let, gI_ne hab]
  rw [e_gd (by rcases hz with z | z <;> rw [z] <;> decide)]
  refine ok_someI ⟨fun j hj => ?_, fun k j hk => by simp only [gI_ne hk]⟩
  have e : j = 0 ∨ j = 1 ∨ j = 2 ∨ j = 3 ∨ j = 4 ∨ j = 5 ∨ j = 6 := by omega
  rcases e with rfl | rfl | rfl | rfl | rfl | rfl | rfl <;> simp (disch := omega) only [gI_nj, gI_eq]
theorem gcopy_ok {D : aD} {T : aT} (hT : TOKp T) (h : DP D T) : Ok (f_X4_copyFrom D) (fun D' => gI D' 3 0 = cI (T 0 0) ∧ gI D' 3 1 = cI (T 0 1) ∧ (∀ c : Nat, (c : Int) < T 0 0 * T 0 1 → gI D' 4 c = cI ((c : Int) % T 0 0) ∧ gI D' 5 c = cI ((c : Int) / T 0 0)) ∧ (∀ c : Nat, c < 64 → gI D' 6 c = gI D 25 c) ∧ ∀ k j : Nat, ¬ (3 ≤ k ∧ k ≤ 6) → gI D' k j = gI D k j) := by
  have hq := hT.1
  unfold f_X4_copyFrom
  refine ok_bindI ((lay3_ok (T 0 0) (T 0 1) h.1 h.2.1 (by omega) (by omega) (by omega) (by omega)).mono fun D1 k => ?_)
  obtain ⟨l0, l1, l2, -, l4⟩ := k
  unfold J_X4_copyFrom_14
  refine ok_bindI ((ok_lp (fun i t => t.1 = cI (i : Int) ∧ (∀ c : Nat, c < i → gI t.2 6 c = gI D 25 c) ∧ ∀ k j : Nat, k ≠ 6 → gI t.2 k j = gI D1 k j) 64 (by omega) ⟨rfl, fun c hc => absurd hc (by omega), fun _ _ _ => rfl⟩ ?_ (K := fun D' => (∀ c : Nat, c < 64 → gI D' 6 c = gI D 25 c) ∧ ∀ k j : Nat, k ≠ 6 → gI D' k j = gI D1 k j)).mono ?_)
  · rintro i ⟨v, D2⟩ hi ⟨rfl, g1, g2⟩
    show Ok (B_X4_copyFrom_14 (cI (i : Int)) D2) _
    have g1' : ∀ c : Nat, c < i → gI D2 6 c = gI D 25 c := g1
    have g2' : ∀ k j : Nat, k ≠ 6 → gI D2 k j = gI D1 k j := g2
    unfold B_X4_copyFrom_14
    by_cases c : i < 64
    · have e1 : ((i : Int)).toNat = i := by omega
      have t : gI D2 25 i = gI D 25 i := (g2' _ _ (by omega)).trans (l4 _ _ (by omega))
      have tz : aZ (gI D 25 i) = true := by
        rw [h.2.2.2.2.2.2.2.2.2.2 i c]
        cases takenN T i <;> decide
      rw [if_neg (show ¬ (64 ≤ cI (i : Int)) by rw [cL64, cI_le (by omega) (by omega) (by omega) (by omega)]; omega), e_gd (cI_inT (by omega) (by omega) (by omega)), e_gd (cI_inT (by omega) (by omega) (by omega)), cI_nat (by omega) (by omega), e1, t, e_gd tz, e_let, e_let]
      refine ok_someI (Or.inl ⟨_, rfl, c, cI_add i 1, fun d hd => ?_, fun k j a => (gI_fr (by omega)).trans (g2' k j a)⟩)
      by_cases y : d = i
      · subst y; exact gI_eq
      · exact (gI_fr (by omega)).trans (g1' d (by omega))
    · obtain rfl : i = 64 := by omega
      rw [if_pos (show 64 ≤ cI ((64 : Nat) : Int) by decide)]
      exact ok_someI (Or.inr ⟨_, rfl, g1', g2'⟩)
  · rintro D2 ⟨k1, k2⟩
    exact ok_someI ⟨(k2 _ _ (by omega)).trans l0, (k2 _ _ (by omega)).trans l1, fun c hc => ⟨(k2 _ _ (by omega)).trans (l2 c hc).1, (k2 _ _ (by omega)).trans (l2 c hc).2⟩, k1, fun k' j a => (k2 _ _ (by omega)).trans (l4 k' j a)⟩
theorem pcopy_ok {D : aD} {T : aT} (hT : TOKp T) (h : DP D T) (hz : hZ D) : Ok (f_X6_copyFrom D) (fun D' => CP D' 2 T ∧ ∀ k j : Nat, ¬ (2 ≤ k ∧ k ≤ 20) → gI D' k j = gI D k j) := by
  have hq := hT.1
  unfold f_X6_copyFrom
  refine ok_bindI ((gcopy_ok hT h).mono fun D1 k => ?_)
  obtain ⟨l0, l1, l2, l3, l4⟩ := k
  simp only [e_let, gI_ne (show (21 : Nat) ≠ 2 by omega)]
  generalize hD9 : pI (pI (pI (pI (pI (pI (pI (pI D1 2 2 (gI D1 21 2)) 2 3 (gI D1 21 3)) 2 4 (gI D1 21 4)) 2 5 (gI D1 21 5)) 2 6 (gI D1 21 6)) 2 7 (gI D1 21 7)) 2 8 (gI D1 21 8)) 2 9 (gI D1 21 9) = D9
  have a1 : ∀ k j : Nat, k ≠ 2 → gI D9 k j = gI D1 k j := fun k j hk => by rw [← hD9]; simp only [gI_ne hk]
  have a2 : ∀ j : Nat, 2 ≤ j → j ≤ 9 → gI D9 2 j = gI D 21 j := fun j x y => by
    rw [← hD9, ← l4 21 j (by omega)]
    have e : j = 2 ∨ j = 3 ∨ j = 4 ∨ j = 5 ∨ j = 6 ∨ j = 7 ∨ j = 8 ∨ j = 9 := by omega
    rcases e with rfl | rfl | rfl | rfl | rfl | rfl | rfl | rfl <;> simp (disch := omega) only [gI_nj, gI_eq]
  clear hD9
  have a3 : ∀ k j : Nat, 7 ≤ k → gI D9 k j = gI D k j := fun k j x => (a1 k j (by omega)).trans (l4 k j (by omega))
  unfold J_X6_copyFrom_77
  refine ok_bindI ((ok_lp (fun i t => t.1 = cI (i : Int) ∧ (∀ s : Nat, s < i → (∀ j : Nat, j < 7 → gI t.2 (15 + s) j = gI D (34 + s) j) ∧ gI t.2 13 s = gI D 32 s) ∧ ∀ k j : Nat, ¬ (15 ≤ k ∧ k ≤ 20) → k ≠ 13 → gI t.2 k j = gI D9 k j) 6 (by omega) ⟨rfl, fun c hc => absurd hc (by omega), fun _ _ _ _ => rfl⟩ ?_ (K := fun D' => (∀ s : Nat, s < 6 → (∀ j : Nat, j < 7 → gI D' (15 + s) j = gI D (34 + s) j) ∧ gI D' 13 s = gI D 32 s) ∧ ∀ k j : Nat, ¬ (15 ≤ k ∧ k ≤ 20) → k ≠ 13 → gI D' k j = gI D9 k j)).mono ?_)
  · rintro i ⟨v, D2⟩ hi ⟨rfl, g1, g2⟩
    show Ok (B_X6_copyFrom_77 (cI (i : Int)) D2) _
    have g1' : ∀ s : Nat, s < i → (∀ j : Nat, j < 7 → gI D2 (15 + s) j = gI D (34 + s) j) ∧ gI D2 13 s = gI D 32 s := g1
    have g2' : ∀ k j : Nat, ¬ (15 ≤ k ∧ k ≤ 20) → k ≠ 13 → gI D2 k j = gI D9 k j := g2
    unfold B_X6_copyFrom_77
    by_cases c : i < 6
    · have e1 : ((i : Int)).toNat = i := by omega
      have o : ∀ k j : Nat, 21 ≤ k → gI D2 k j = gI D k j := fun k j x => (g2' k j (by omega) (by omega)).trans (a3 k j (by omega))
      rw [if_neg (show ¬ (6 ≤ cI (i : Int)) by rw [cL6, cI_le (by omega) (by omega) (by omega) (by omega)]; omega), e_gd (cI_inT (by omega) (by omega) (by omega)), e_gd (cI_inT (by omega) (by omega) (by omega)), cI_nat (by omega) (by omega), e1]
      refine ok_bindI ((x8_ok (a := 15 + i) (b := 34 + i) (by omega) (by rw [o _ _ (by omega)]; exact hz i c)).mono fun D3 k => ?_)
      have t : gI D3 32 i = gI D 32 i := (k.2 _ _ (by omega)).trans (o _ _ (by omega))
      have tz : aZ (gI D 32 i) = true := by
        rcases h.2.2.2.2.2.2.2.2.1 i c with ⟨u, -⟩ | u <;> rw [u] <;> decide
      rw [e_gd (cI_inT (by omega) (by omega) (by omega)), e_gd (cI_inT (by omega) (by omega) (by omega)), t, e_gd tz, e_let, e_let]
      refine ok_someI (Or.inl ⟨_, rfl, c, cI_add i 1, fun d hd => ?_, fun k' j a b => (gI_fr (by omega)).trans ((k.2 _ _ (by omega)).trans (g2' k' j a b))⟩)
      by_cases y : d = i
      · subst y
        exact ⟨fun j hj => (gI_fr (by omega)).trans ((k.1 j hj).trans (o _ _ (by omega))), gI_eq⟩
      · have w := g1' d (by omega)
        exact ⟨fun j hj => (gI_fr (by omega)).trans ((k.2 _ _ (by omega)).trans (w.1 j hj)), (gI_fr (by omega)).trans ((k.2 _ _ (by omega)).trans w.2)⟩
    · obtain rfl : i = 6 := by omega
      rw [if_pos (show 6 ≤ cI ((6 : Nat) : Int) by decide)]
      exact ok_someI (Or.inr ⟨_, rfl, g1', g2'⟩)
  · rintro D2 ⟨k1, k2⟩
    have o : ∀ k j : Nat, 21 ≤ k → gI D2 k j = gI D k j := fun k j x => (k2 k j (by omega) (by omega)).trans (a3 k j (by omega))
    unfold J_X6_copyFrom_116
    simp (disch := omega) only [e_bi, e_bind, e_let, e_tr, e_tl, cLm1, cLm2, cL0, cL1, cL2, cL3, cL4, cL5, cL6, cL7, cL8, cL9, cL10, cL11, cL12, cL13, cL14, cL15, cL16, cL17, cL18, cL19, cL20, cL21, cL22, cL23, cL24, cL25, cL29, cL30, cL31, cL32, cL36, cL48, cL50, cL51, cL52, cL64, cL99, cL100, cL700, cL1000, cL9999, cL10000, cI_add, cI_sub, cI_mul, cI_neg, cI_lt, cI_le, cI_eq, ne_eq, ifp, ifn, bI_p, bI_n, aZ_0, aZ_1, aZ_b, e_gdt, e_ifT, e_ifF, not_true_eq_false, not_false_eq_true, e_gd, cg_c, ok_some]
    obtain ⟨h1, h2, h3, h4, h5, h6, h7, h8, h9, h10, h11⟩ := h
    refine ⟨⟨?_, ?_, fun j x y => ?_, fun w x => ?_, fun f s x y => ?_, fun r p x y => ?_, fun i x => ?_, fun m x => ?_, fun s x => ?_, fun d x => ?_, fun d x => ?_⟩, fun k j x => ?_⟩
    · simp (disch := omega) only [Nat.reduceAdd, cp_N]; rw [k2 _ _ (by omega) (by omega), a1 _ _ (by omega)]; exact l0
    · simp (disch := omega) only [Nat.reduceAdd, cp_N]; rw [k2 _ _ (by omega) (by omega), a1 _ _ (by omega)]; exact l1
    · simp (disch := omega) only [cp_N]; rw [k2 _ _ (by omega) (by omega), a2 j x y]; exact h3 j x y
    · simp (disch := omega) only [Nat.reduceAdd, cp_N, cp_E]; rw [o _ _ (by omega)]; exact h4 w x
    · simp (disch := omega) only [Nat.reduceAdd, cp_N]; rw [(k1 s (by omega)).1 f x]; exact h5 f s x y
    · rcases j3 x with rfl | rfl | rfl
      · simp (disch := omega) only [Nat.add_zero, Nat.reduceAdd, cp_N, cp_E]; rw [o _ _ (by omega)]; exact h6 0 p (by omega) y
      · simp (disch := omega) only [Nat.add_zero, Nat.reduceAdd, cp_N, cp_E]; rw [o _ _ (by omega)]; exact h6 1 p (by omega) y
      · simp (disch := omega) only [Nat.add_zero, Nat.reduceAdd, cp_N, cp_E]; rw [o _ _ (by omega)]; exact h6 2 p (by omega) y
    · simp (disch := omega) only [Nat.reduceAdd, cp_N, cp_E]; rw [o _ _ (by omega)]; exact h7 i x
    · simp (disch := omega) only [Nat.reduceAdd, cp_N, cp_E]; rw [o _ _ (by omega)]; exact h8 m x
    · simp (disch := omega) only [Nat.reduceAdd, cp_N]; rw [(k1 s x).2]; exact h9 s x
    · simp (disch := omega) only [Nat.reduceAdd, cp_N]; rw [k2 _ _ (by omega) (by omega), k2 _ _ (by omega) (by omega), a1 _ _ (by omega), a1 _ _ (by omega)]; exact l2 d x
    · simp (disch := omega) only [Nat.reduceAdd, cp_N]; rw [k2 _ _ (by omega) (by omega), a1 _ _ (by omega), l3 d x]; exact h11 d x
    · simp (disch := omega) only [cp_N]; rw [k2 _ _ (by omega) (by omega), a1 _ _ (by omega)]; exact l4 k j (by omega)
theorem reset_ok {D : aD} : Ok (f_X9_reset_40 D) (fun D' => (∀ p : Nat, p < 12 → gI D' 41 p = cI 0) ∧ (∀ i : Nat, i < 5 → gI D' 42 i = cI (i : Int)) ∧ gI D' 40 2 = cI 12 ∧ gI D' 40 3 = cI 0 ∧ gI D' 40 4 = cI 0 ∧ ∀ k j : Nat, ¬ (40 ≤ k ∧ k ≤ 42) → gI D' k j = gI D k j) := by
  unfold f_X9_reset_40
  refine ok_bindI ((fill_ok (a := 41) (n := 12) (v := 0) (by omega)).mono fun D1 k => ?_)
  obtain ⟨a1, a2, -⟩ := k
  unfold J_X9_reset_40_10
  refine ok_bindI ((ok_lp (fun i t => t.1 = cI (i : Int) ∧ (∀ c : Nat, c < i → gI t.2 42 c = cI (c : Int)) ∧ ∀ k j : Nat, k ≠ 42 → gI t.2 k j = gI D1 k j) 5 (by omega) ⟨rfl, fun c hc => absurd hc (by omega), fun _ _ _ => rfl⟩ ?_ (K := fun D' => (∀ c : Nat, c < 5 → gI D' 42 c = cI (c : Int)) ∧ ∀ k j : Nat, k ≠ 42 → gI D' k j = gI D1 k j)).mono ?_)
  · rintro i ⟨v, D2⟩ hi ⟨rfl, g1, g2⟩
    show Ok (B_X9_reset_40_10 (cI (i : Int)) D2) _
    have g1' : ∀ c : Nat, c < i → gI D2 42 c = cI (c : Int) := g1
    have g2' : ∀ k j : Nat, k ≠ 42 → gI D2 k j = gI D1 k j := g2
    unfold B_X9_reset_40_10
    by_cases c : i < 5
    · have e1 : ((i : Int)).toNat = i := by omega
      rw [if_neg (show ¬ (5 ≤ cI (i : Int)) by rw [cL5, cI_le (by omega) (by omega) (by omega) (by omega)]; omega), e_gd (cI_inT (by omega) (by omega) (by omega)), cI_nat (by omega) (by omega), e1, e_let, e_let]
      refine ok_someI (Or.inl ⟨_, rfl, c, cI_add i 1, fun d hd => ?_, fun k j a => (gI_fr (by omega)).trans (g2' k j a)⟩)
      by_cases y : d = i
      · subst y; exact gI_eq
      · exact (gI_fr (by omega)).trans (g1' d (by omega))
    · obtain rfl : i = 5 := by omega
      rw [if_pos (show 5 ≤ cI ((5 : Nat) : Int) by decide)]
      exact ok_someI (Or.inr ⟨_, rfl, g1', g2'⟩)
  · rintro D2 ⟨k1, k2⟩
    unfold J_X9_reset_40_28
    rw [e_let, e_let, e_let]
    refine ok_someI ⟨fun p hp => ?_, fun i hi => ?_, ?_, ?_, gI_eq, fun k j x => ?_⟩
    · rw [gI_ne (by omega), gI_ne (by omega), gI_ne (by omega), k2 _ _ (by omega), a1 p hp]; rfl
    · rw [gI_ne (by omega), gI_ne (by omega), gI_ne (by omega)]; exact k1 i hi
    · rw [gI_fr (by omega), gI_fr (by omega)]; exact gI_eq
    · rw [gI_fr (by omega)]; exact gI_eq
    · rw [gI_ne (by omega), gI_ne (by omega), gI_ne (by omega), k2 _ _ (by omega)]; exact a2 k j (by omega)
def nwT (T' T : aT) : aT := fun k j => if k < 13 then T' k j else if k = 13 then 0 else if k = 14 then (j : Int) else if k = 15 then (if j = 0 then 12 else 0) else T k j
theorem nw_low {T' T : aT} : lowT T' (nwT T' T) := fun k hk => funext fun j => if_pos hk
theorem nw_n {T' T : aT} (h : TOKp T') : TOKn (nwT T' T) := by
  have e5 : nwT T' T 0 5 = T' 0 5 := rfl
  refine ⟨by show 0 ≤ (12 : Int) ∧ (12 : Int) ≤ 23 ∧ (0 : Int) ≤ 0 ∧ (0 : Int) ≤ 51 ∧ (0 : Int) ≤ 0 ∧ (0 : Int) ≤ 12; omega, fun p _ => by show 0 ≤ (0 : Int) ∧ (0 : Int) ≤ 2; omega, fun i hi => ?_, fun i hi => absurd (show (i : Int) < 0 from hi) (by omega)⟩
  have hi' : (i : Int) < T' 0 5 := hi
  show 0 ≤ (i : Int) ∧ (i : Int) < T' 0 5
  omega
/-- what the class holds behind town -/
def ctwC (D0 : aD) (B : Nat → Int) (N : Nat) (T : aT) (D : aD) : Prop := (∀ k j : Nat, 88 ≤ k → gI D k j = gI D0 k j) ∧ gI D 0 1 = cI 0 ∧ gI D 0 2 = cI (rdX B N).1.2.1 ∧ hZ D ∧ (rdX B N).1.1 ≤ 5 ∧
  (((rdX B N).1.1 = 0 ∧ TOKp (rdX B N).2 ∧ (rdX B N).1.2.1 = -1 ∧ CP D 2 (nwT (rdX B N).2 T) ∧ CNow D (nwT (rdX B N).2 T) ∧ gI D 0 7 = cI 0) ∨
   (0 < (rdX B N).1.1 ∧ CP D 2 T ∧ CNow D (tS T 20 0 (T 20 0 + 1)) ∧ gI D 0 7 = gI D0 0 7 ∧ ∀ k j : Nat, 48 ≤ k → k ≤ 55 → gI D k j = gI D0 k j))
theorem ctown_ok {D : aD} {T K : aT} {L : Int} {B : Nat → Int} (H : rel T K L B D) {N : Nat} (hN : (N : Int) ≤ L) : Ok (f_X11_town (cI (N : Int)) D) (fun r => r.1 = .inr (cI (rdX B N).1.1) ∧ ctwC D B N T r.2) := by
  obtain ⟨hp, hn, hC, hNow, hM, hR, hK, hTp, hF, hO⟩ := H
  obtain ⟨t1, t2, t3, t4, t5⟩ := hTp
  have hq := hp.1
  have hB : BT D B N := ⟨by omega, fun j hj => by have k := t5 j (by omega); exact ⟨k.1, k.2.1, k.2.2.1⟩⟩
  have hzD : hZ D := hO.2.2.2.2
  unfold f_X11_town
  rw [t1, if_neg (show ¬ (cI (N : Int) < 0) by rw [cL0, cI_lt (by omega) (by omega) (by omega) (by omega)]; omega), if_pos (show cI (N : Int) ≤ cI L by rw [cI_le (by omega) (by omega) (by omega) (by omega)]; omega)]
  refine ok_biI ((cread_ok hB).mono fun r k => ?_)
  obtain ⟨y, D1⟩ := r
  obtain ⟨e, k2, k3, k4, k5, k6⟩ := k
  obtain rfl : y = cI (rdX B N).1.1 := e
  have k2' : gI D1 56 8 = cI (rdX B N).1.2.1 := k2
  have k5' : fD D D1 := k5
  have k6' : (rdX B N).1.1 = 0 → DP D1 (rdX B N).2 ∧ TOKp (rdX B N).2 ∧ (rdX B N).1.2.1 = -1 := k6
  have z1 := k5'.2 hzD
  dsimp only
  rw [e_let, gI_ne (by omega), k2', e_let]
  have f1 : ∀ k j : Nat, ¬ (k = 0 ∧ (j = 1 ∨ j = 2)) → gI (pI (pI D1 0 1 0) 0 2 (cI (rdX B N).1.2.1)) k j = gI D1 k j := fun k j a => by rw [gI_fr (by omega), gI_fr (by omega)]
  have f01 : gI (pI (pI D1 0 1 0) 0 2 (cI (rdX B N).1.2.1)) 0 1 = cI 0 := (gI_fr (by omega)).trans gI_eq
  have f02 : gI (pI (pI D1 0 1 0) 0 2 (cI (rdX B N).1.2.1)) 0 2 = cI (rdX B N).1.2.1 := gI_eq
  generalize pI (pI D1 0 1 0) 0 2 (cI (rdX B N).1.2.1) = D2 at f1 f01 f02
  by_cases z : (rdX B N).1.1 = 0
  · obtain ⟨d1, d2, d3⟩ := k6' z
    have hq2 := d2.1
    rw [if_pos (show cI (rdX B N).1.1 = 0 by rw [z]; rfl)]
    have d1' : DP D2 (rdX B N).2 := d1.fr (by omega) (fun k j _ _ _ _ _ => f1 k j (by omega))
    refine ok_bindI ((pcopy_ok d2 d1' (fun s hs => by rw [f1 _ _ (by omega)]; exact z1 s hs)).mono fun D3 k => ?_)
    obtain ⟨c1, c2⟩ := k
    refine ok_bindI (reset_ok.mono fun D4 k => ?_)
    obtain ⟨r1, r2, r3, r4, r5, r6⟩ := k
    rw [e_let]
    have al : ∀ k j : Nat, 43 ≤ k → k ≠ 56 → gI (pI D4 0 7 0) k j = gI D k j := fun k j a b => by
      rw [gI_fr (by omega), r6 k j (by omega), c2 k j (by omega), f1 k j (by omega)]
      exact k5'.1 k j (by omega) b
    refine ok_someI ⟨by rw [z]; rfl, fun k j a => al k j (by omega) (by omega), ?_, ?_, fun s hs => ?_, k4, Or.inl ⟨z, d2, d3, ?_, ?_, gI_eq⟩⟩
    · rw [gI_fr (by omega), r6 _ _ (by omega), c2 _ _ (by omega)]; exact f01
    · rw [gI_fr (by omega), r6 _ _ (by omega), c2 _ _ (by omega)]; exact f02
    · rw [gI_fr (by omega), r6 _ _ (by omega), c2 _ _ (by omega), f1 _ _ (by omega)]; exact z1 s hs
    · exact (c1.fr d2 (fun k j hk => (gI_fr (by omega)).trans (r6 _ _ (by omega)))).cg nw_low
    · obtain ⟨n1, n2, n3, n4, n5⟩ := hNow
      refine ⟨fun p hp' => ?_, fun i hi => ?_, fun r i hr hi => ?_, fun i hi => ?_, fun j hj => ?_⟩
      · have hp2 : (p : Int) < (rdX B N).2 0 4 := hp'
        rw [gI_fr (by omega), r1 p (by omega)]
        rfl
      · rw [gI_fr (by omega), r2 i hi]; rfl
      · have e : nwT (rdX B N).2 T (16 + r) i = T (16 + r) i := by
          unfold nwT
          rw [if_neg (by omega), if_neg (by omega), if_neg (by omega), if_neg (by omega)]
        rw [al _ _ (by omega) (by omega), e]
        exact n3 r i hr hi
      · rw [al _ _ (by omega) (by omega)]
        exact n4 i hi
      · have e : j = 0 ∨ j = 1 ∨ j = 2 := by omega
        rcases e with rfl | rfl | rfl
        · rw [gI_fr (by omega)]; exact r3
        · rw [gI_fr (by omega)]; exact r4
        · rw [gI_fr (by omega)]; exact r5
  · rw [if_neg (show ¬ (cI (rdX B N).1.1 = 0) by rw [cL0, cI_eq (by omega) (by omega) (by omega) (by omega)]; exact z), e_gd (by decide), e_gd (by decide), e_let]
    have al : ∀ k j : Nat, ¬ (21 ≤ k ∧ k ≤ 39) → k ≠ 56 → ¬ (k = 0 ∧ (j = 1 ∨ j = 2)) → gI D2 k j = gI D k j := fun k j a b c => (f1 k j c).trans (k5'.1 k j a b)
    have s0 : gI D2 47 (0 : Int32).toNatClampNeg + 1 = cI (T 20 0 + 1) := by
      rw [show (0 : Int32).toNatClampNeg = 0 from rfl, al 47 0 (by omega) (by omega) (by omega), hNow.2.2.2.1 0 (by omega), cL1, cI_add]
    rw [s0, show (0 : Int32).toNatClampNeg = 0 from rfl]
    have al2 : ∀ k j : Nat, ¬ (21 ≤ k ∧ k ≤ 39) → k ≠ 56 → k ≠ 47 → ¬ (k = 0 ∧ (j = 1 ∨ j = 2)) → gI (pI D2 47 0 (cI (T 20 0 + 1))) k j = gI D k j := fun k j a b c d => (gI_fr (by omega)).trans (al k j a b d)
    refine ok_someI ⟨rfl, fun k j a => al2 k j (by omega) (by omega) (by omega) (by omega), (gI_fr (by omega)).trans f01, (gI_fr (by omega)).trans f02, fun s hs => ?_, k4, Or.inr ⟨by omega, ?_, ?_, al2 _ _ (by omega) (by omega) (by omega) (by omega), fun k j a b => al2 k j (by omega) (by omega) (by omega) (by omega)⟩⟩
    · rw [gI_fr (by omega), f1 _ _ (by omega)]; exact z1 s hs
    · exact hC.fr hp (fun k j hk => al2 _ j (by omega) (by omega) (by omega) (by omega))
    · exact aNow.setS (aNow.fr hNow (fun j => al _ j (by omega) (by omega) (by omega)) (fun j => al _ j (by omega) (by omega) (by omega)) (fun r j hr => al _ j (by omega) (by omega) (by omega)) (fun j => al _ j (by omega) (by omega) (by omega)) (fun j hj => al _ _ (by omega) (by omega) (by omega))) dsC
end CTW
