/-! town: the grid, an empty plan, the line that tells the town -/
section GRD
theorem clrT22_ok {D : aD} : Ok (f_X4_clearTaken_22 D) (fun D' => (∀ c : Nat, c < 64 → gI D' 25 c = cI 0) ∧ ∀ k j : Nat, k ≠ 25 → gI D' k j = gI D k j) := by
  unfold f_X4_clearTaken_22 J_X4_clearTaken_22_2
  refine ok_bindI ((ok_lp (fun i t => t.1 = cI (i : Int) ∧ (∀ c : Nat, c < i → gI t.2 25 c = cI 0) ∧ ∀ k j : Nat, k ≠ 25 → gI t.2 k j = gI D k j) 64 (by omega) ⟨rfl, fun c hc => absurd hc (by omega), fun _ _ _ => rfl⟩ ?_).mono fun D' k => ok_someI k)
  rintro i ⟨v, D1⟩ hi ⟨rfl, g1, g2⟩
  show Ok (B_X4_clearTaken_22_2 (cI (i : Int)) D1) _
  have g1' : ∀ c : Nat, c < i → gI D1 25 c = cI 0 := g1
  have g2' : ∀ k j : Nat, k ≠ 25 → gI D1 k j = gI D k j := g2
  unfold B_X4_clearTaken_22_2
  by_cases c : i < 64
  · have e1 : ((i : Int)).toNat = i := by omega
    rw [if_neg (show ¬ (64 ≤ cI (i : Int)) by rw [cL64, cI_le (by omega) (by omega) (by omega) (by omega)]; omega), e_gd (cI_inT (by omega) (by omega) (by omega)), e_let, e_let, cI_nat (by omega) (by omega), e1]
    refine ok_someI (Or.inl ⟨_, rfl, c, cI_add i 1, fun d hd => ?_, fun k j a => (gI_fr (by omega)).trans (g2' k j a)⟩)
    by_cases y : d = i
    · subst y; exact gI_eq
    · exact (gI_fr (by omega)).trans (g1' d (by omega))
  · obtain rfl : i = 64 := by omega
    rw [if_pos (show 64 ≤ cI ((64 : Nat) : Int) by decide)]
    exact ok_someI (Or.inr ⟨_, rfl, g1', g2'⟩)
theorem lay22_ok {D : aD} {va vb : Int32} (a b : Int) (ea : va = cI a) (eb : vb = cI b) (a1 : 2 ≤ a) (a2 : a ≤ 8) (b1 : 2 ≤ b) (b2 : b ≤ 8) : Ok (f_X4_lay_22 va vb D) (fun D' => gI D' 22 0 = cI a ∧ gI D' 22 1 = cI b ∧ (∀ c : Nat, (c : Int) < a * b → gI D' 23 c = cI ((c : Int) % a) ∧ gI D' 24 c = cI ((c : Int) / a)) ∧ (∀ c : Nat, c < 64 → gI D' 25 c = cI 0) ∧ ∀ k j : Nat, ¬ (22 ≤ k ∧ k ≤ 25) → gI D' k j = gI D k j) := by
  subst ea eb
  have m2 : b * a ≤ 64 := Int.mul_le_mul b2 a2 (by omega) (by omega)
  unfold f_X4_lay_22 J_X4_lay_22_12
  rw [e_let, e_let]
  refine ok_bindI ((ok_lp (fun i t => t.1 = cI (i : Int) ∧ (∀ c : Nat, (c : Int) < (i : Int) * a → gI t.2 23 c = cI ((c : Int) % a) ∧ gI t.2 24 c = cI ((c : Int) / a)) ∧ gI t.2 22 0 = cI a ∧ gI t.2 22 1 = cI b ∧ ∀ k j : Nat, ¬ (22 ≤ k ∧ k ≤ 24) → gI t.2 k j = gI D k j) b.toNat (by omega) ⟨rfl, fun c hc => absurd hc (by show ¬ ((c : Int) < ((0 : Nat) : Int) * a); rw [show ((0 : Nat) : Int) * a = 0 from Int.zero_mul a]; omega), (gI_fr (by omega)).trans gI_eq, gI_eq, fun k j z => by show gI (pI (pI D 22 0 (cI a)) 22 1 (cI b)) k j = _; rw [gI_fr (by omega), gI_fr (by omega)]⟩ ?_ (K := fun D' => (∀ c : Nat, (c : Int) < a * b → gI D' 23 c = cI ((c : Int) % a) ∧ gI D' 24 c = cI ((c : Int) / a)) ∧ gI D' 22 0 = cI a ∧ gI D' 22 1 = cI b ∧ ∀ k j : Nat, ¬ (22 ≤ k ∧ k ≤ 24) → gI D' k j = gI D k j)).mono ?_)
  · rintro i ⟨v, D1⟩ hi ⟨rfl, g1, g2, g3, g4⟩
    show Ok (B_X4_lay_22_12 (cI a) (cI b) (cI (i : Int)) D1) _
    have g1' : ∀ c : Nat, (c : Int) < (i : Int) * a → gI D1 23 c = cI ((c : Int) % a) ∧ gI D1 24 c = cI ((c : Int) / a) := g1
    have g2' : gI D1 22 0 = cI a := g2
    have g3' : gI D1 22 1 = cI b := g3
    have g4' : ∀ k j : Nat, ¬ (22 ≤ k ∧ k ≤ 24) → gI D1 k j = gI D k j := g4
    unfold B_X4_lay_22_12
    by_cases c : (i : Int) < b
    · have m1 : (i : Int) * a + a ≤ b * a := by
        have := Int.mul_le_mul_of_nonneg_right (show (i : Int) + 1 ≤ b by omega) (show 0 ≤ a by omega)
        rw [Int.add_mul, Int.one_mul] at this
        exact this
      have m0 : 0 ≤ (i : Int) * a := Int.mul_nonneg (by omega) (by omega)
      rw [if_neg (show ¬ (cI b ≤ cI (i : Int)) by rw [cI_le (by omega) (by omega) (by omega) (by omega)]; omega), if_neg (show ¬ (8 ≤ cI (i : Int)) by rw [cL8, cI_le (by omega) (by omega) (by omega) (by omega)]; omega)]
      unfold J_X4_lay_22_26
      refine ok_bindI ((ok_lp (fun n t => t.1 = cI (n : Int) ∧ (∀ c : Nat, (c : Int) < (i : Int) * a + (n : Int) → gI t.2 23 c = cI ((c : Int) % a) ∧ gI t.2 24 c = cI ((c : Int) / a)) ∧ ∀ k j : Nat, k ≠ 23 → k ≠ 24 → gI t.2 k j = gI D1 k j) a.toNat (by omega) ⟨rfl, fun c hc => g1' c (by have hc' : (c : Int) < (i : Int) * a + ((0 : Nat) : Int) := hc; omega), fun _ _ _ _ => rfl⟩ ?_ (K := fun D' => (∀ c : Nat, (c : Int) < (i : Int) * a + a → gI D' 23 c = cI ((c : Int) % a) ∧ gI D' 24 c = cI ((c : Int) / a)) ∧ ∀ k j : Nat, k ≠ 23 → k ≠ 24 → gI D' k j = gI D1 k j)).mono ?_)
      · rintro n ⟨v, D2⟩ hn ⟨rfl, f1, f2⟩
        show Ok (B_X4_lay_22_26 (cI a) (cI b) (cI (i : Int)) (cI (n : Int)) D2) _
        have f1' : ∀ c : Nat, (c : Int) < (i : Int) * a + (n : Int) → gI D2 23 c = cI ((c : Int) % a) ∧ gI D2 24 c = cI ((c : Int) / a) := f1
        have f2' : ∀ k j : Nat, k ≠ 23 → k ≠ 24 → gI D2 k j = gI D1 k j := f2
        unfold B_X4_lay_22_26
        by_cases d : (n : Int) < a
        · have u := (Int.ediv_emod_unique (a := (i : Int) * a + (n : Int)) (q := (i : Int)) (r := (n : Int)) (show 0 < a by omega)).mpr ⟨by rw [Int.mul_comm a]; omega, by omega, d⟩
          rw [if_neg (show ¬ (cI a ≤ cI (n : Int)) by rw [cI_le (by omega) (by omega) (by omega) (by omega)]; omega), if_neg (show ¬ (8 ≤ cI (n : Int)) by rw [cL8, cI_le (by omega) (by omega) (by omega) (by omega)]; omega), cI_mul, cI_add, e_gd (cI_inT (by omega) (by omega) (by omega)), e_let, e_let, e_gd (cI_inT (by omega) (by omega) (by omega)), cI_nat (by omega) (by omega), e_let]
          refine ok_someI (Or.inl ⟨_, rfl, by omega, cI_add n 1, fun c hc => ?_, fun k j x y => ?_⟩)
          · have hc' : (c : Int) < (i : Int) * a + ((n + 1 : Nat) : Int) := hc
            by_cases y : (c : Int) = (i : Int) * a + (n : Int)
            · have e : c = ((i : Int) * a + (n : Int)).toNat := by omega
              rw [y, u.1, u.2, e]
              exact ⟨(gI_fr (by omega)).trans gI_eq, gI_eq⟩
            · have k := f1' c (by omega)
              exact ⟨(gI_fr (by omega)).trans ((gI_fr (by omega)).trans k.1), (gI_fr (by omega)).trans ((gI_fr (by omega)).trans k.2)⟩
          · exact (gI_fr (by omega)).trans ((gI_fr (by omega)).trans (f2' k j x y))
        · have e : (n : Int) = a := by omega
          rw [if_pos (show cI a ≤ cI (n : Int) by rw [cI_le (by omega) (by omega) (by omega) (by omega)]; omega)]
          exact ok_someI (Or.inr ⟨_, rfl, fun c hc => f1' c (by omega), f2'⟩)
      · rintro D2 ⟨k1, k2⟩
        unfold J_X4_lay_22_70
        rw [e_let]
        refine ok_someI (Or.inl ⟨_, rfl, by omega, cI_add i 1, fun c hc => k1 c ?_, (k2 _ _ (by omega) (by omega)).trans g2', (k2 _ _ (by omega) (by omega)).trans g3', fun k j z => (k2 k j (by omega) (by omega)).trans (g4' k j z)⟩)
        have hc' : (c : Int) < ((i : Int) + 1) * a := hc
        rw [Int.add_mul, Int.one_mul] at hc'
        exact hc'
    · have e : (i : Int) = b := by omega
      rw [if_pos (show cI b ≤ cI (i : Int) by rw [cI_le (by omega) (by omega) (by omega) (by omega)]; omega)]
      refine ok_someI (Or.inr ⟨_, rfl, fun c hc => g1' c ?_, g2', g3', g4'⟩)
      rw [e, Int.mul_comm]
      exact hc
  · rintro D1 ⟨g1, g2, g3, g4⟩
    unfold J_X4_lay_22_76
    refine ok_bindI (clrT22_ok.mono fun D2 k => ok_someI ?_)
    exact ⟨(k.2 _ _ (by omega)).trans g2, (k.2 _ _ (by omega)).trans g3, fun c hc => ⟨(k.2 _ _ (by omega)).trans (g1 c hc).1, (k.2 _ _ (by omega)).trans (g1 c hc).2⟩, k.1, fun k' j z => (k.2 _ _ (by omega)).trans (g4 k' j (by omega))⟩
theorem clrT3_ok {D : aD} : Ok (f_X4_clearTaken_3 D) (fun D' => (∀ c : Nat, c < 64 → gI D' 6 c = cI 0) ∧ ∀ k j : Nat, k ≠ 6 → gI D' k j = gI D k j) := by
  unfold f_X4_clearTaken_3 J_X4_clearTaken_3_2
  refine ok_bindI ((ok_lp (fun i t => t.1 = cI (i : Int) ∧ (∀ c : Nat, c < i → gI t.2 6 c = cI 0) ∧ ∀ k j : Nat, k ≠ 6 → gI t.2 k j = gI D k j) 64 (by omega) ⟨rfl, fun c hc => absurd hc (by omega), fun _ _ _ => rfl⟩ ?_).mono fun D' k => ok_someI k)
  rintro i ⟨v, D1⟩ hi ⟨rfl, g1, g2⟩
  show Ok (B_X4_clearTaken_3_2 (cI (i : Int)) D1) _
  have g1' : ∀ c : Nat, c < i → gI D1 6 c = cI 0 := g1
  have g2' : ∀ k j : Nat, k ≠ 6 → gI D1 k j = gI D k j := g2
  unfold B_X4_clearTaken_3_2
  by_cases c : i < 64
  · have e1 : ((i : Int)).toNat = i := by omega
    rw [if_neg (show ¬ (64 ≤ cI (i : Int)) by rw [cL64, cI_le (by omega) (by omega) (by omega) (by omega)]; omega), e_gd (cI_inT (by omega) (by omega) (by omega)), e_let, e_let, cI_nat (by omega) (by omega), e1]
    refine ok_someI (Or.inl ⟨_, rfl, c, cI_add i 1, fun d hd => ?_, fun k j a => (gI_fr (by omega)).trans (g2' k j a)⟩)
    by_cases y : d = i
    · subst y; exact gI_eq
    · exact (gI_fr (by omega)).trans (g1' d (by omega))
  · obtain rfl : i = 64 := by omega
    rw [if_pos (show 64 ≤ cI ((64 : Nat) : Int) by decide)]
    exact ok_someI (Or.inr ⟨_, rfl, g1', g2'⟩)
theorem lay3_ok {D : aD} {va vb : Int32} (a b : Int) (ea : va = cI a) (eb : vb = cI b) (a1 : 2 ≤ a) (a2 : a ≤ 8) (b1 : 2 ≤ b) (b2 : b ≤ 8) : Ok (f_X4_lay_3 va vb D) (fun D' => gI D' 3 0 = cI a ∧ gI D' 3 1 = cI b ∧ (∀ c : Nat, (c : Int) < a * b → gI D' 4 c = cI ((c : Int) % a) ∧ gI D' 5 c = cI ((c : Int) / a)) ∧ (∀ c : Nat, c < 64 → gI D' 6 c = cI 0) ∧ ∀ k j : Nat, ¬ (3 ≤ k ∧ k ≤ 6) → gI D' k j = gI D k j) := by
  subst ea eb
  have m2 : b * a ≤ 64 := Int.mul_le_mul b2 a2 (by omega) (by omega)
  unfold f_X4_lay_3 J_X4_lay_3_12
  rw [e_let, e_let]
  refine ok_bindI ((ok_lp (fun i t => t.1 = cI (i : Int) ∧ (∀ c : Nat, (c : Int) < (i : Int) * a → gI t.2 4 c = cI ((c : Int) % a) ∧ gI t.2 5 c = cI ((c : Int) / a)) ∧ gI t.2 3 0 = cI a ∧ gI t.2 3 1 = cI b ∧ ∀ k j : Nat, ¬ (3 ≤ k ∧ k ≤ 5) → gI t.2 k j = gI D k j) b.toNat (by omega) ⟨rfl, fun c hc => absurd hc (by show ¬ ((c : Int) < ((0 : Nat) : Int) * a); rw [show ((0 : Nat) : Int) * a = 0 from Int.zero_mul a]; omega), (gI_fr (by omega)).trans gI_eq, gI_eq, fun k j z => by show gI (pI (pI D 3 0 (cI a)) 3 1 (cI b)) k j = _; rw [gI_fr (by omega), gI_fr (by omega)]⟩ ?_ (K := fun D' => (∀ c : Nat, (c : Int) < a * b → gI D' 4 c = cI ((c : Int) % a) ∧ gI D' 5 c = cI ((c : Int) / a)) ∧ gI D' 3 0 = cI a ∧ gI D' 3 1 = cI b ∧ ∀ k j : Nat, ¬ (3 ≤ k ∧ k ≤ 5) → gI D' k j = gI D k j)).mono ?_)
  · rintro i ⟨v, D1⟩ hi ⟨rfl, g1, g2, g3, g4⟩
    show Ok (B_X4_lay_3_12 (cI a) (cI b) (cI (i : Int)) D1) _
    have g1' : ∀ c : Nat, (c : Int) < (i : Int) * a → gI D1 4 c = cI ((c : Int) % a) ∧ gI D1 5 c = cI ((c : Int) / a) := g1
    have g2' : gI D1 3 0 = cI a := g2
    have g3' : gI D1 3 1 = cI b := g3
    have g4' : ∀ k j : Nat, ¬ (3 ≤ k ∧ k ≤ 5) → gI D1 k j = gI D k j := g4
    unfold B_X4_lay_3_12
    by_cases c : (i : Int) < b
    · have m1 : (i : Int) * a + a ≤ b * a := by
        have := Int.mul_le_mul_of_nonneg_right (show (i : Int) + 1 ≤ b by omega) (show 0 ≤ a by omega)
        rw [Int.add_mul, Int.one_mul] at this
        exact this
      have m0 : 0 ≤ (i : Int) * a := Int.mul_nonneg (by omega) (by omega)
      rw [if_neg (show ¬ (cI b ≤ cI (i : Int)) by rw [cI_le (by omega) (by omega) (by omega) (by omega)]; omega), if_neg (show ¬ (8 ≤ cI (i : Int)) by rw [cL8, cI_le (by omega) (by omega) (by omega) (by omega)]; omega)]
      unfold J_X4_lay_3_26
      refine ok_bindI ((ok_lp (fun n t => t.1 = cI (n : Int) ∧ (∀ c : Nat, (c : Int) < (i : Int) * a + (n : Int) → gI t.2 4 c = cI ((c : Int) % a) ∧ gI t.2 5 c = cI ((c : Int) / a)) ∧ ∀ k j : Nat, k ≠ 4 → k ≠ 5 → gI t.2 k j = gI D1 k j) a.toNat (by omega) ⟨rfl, fun c hc => g1' c (by have hc' : (c : Int) < (i : Int) * a + ((0 : Nat) : Int) := hc; omega), fun _ _ _ _ => rfl⟩ ?_ (K := fun D' => (∀ c : Nat, (c : Int) < (i : Int) * a + a → gI D' 4 c = cI ((c : Int) % a) ∧ gI D' 5 c = cI ((c : Int) / a)) ∧ ∀ k j : Nat, k ≠ 4 → k ≠ 5 → gI D' k j = gI D1 k j)).mono ?_)
      · rintro n ⟨v, D2⟩ hn ⟨rfl, f1, f2⟩
        show Ok (B_X4_lay_3_26 (cI a) (cI b) (cI (i : Int)) (cI (n : Int)) D2) _
        have f1' : ∀ c : Nat, (c : Int) < (i : Int) * a + (n : Int) → gI D2 4 c = cI ((c : Int) % a) ∧ gI D2 5 c = cI ((c : Int) / a) := f1
        have f2' : ∀ k j : Nat, k ≠ 4 → k ≠ 5 → gI D2 k j = gI D1 k j := f2
        unfold B_X4_lay_3_26
        by_cases d : (n : Int) < a
        · have u := (Int.ediv_emod_unique (a := (i : Int) * a + (n : Int)) (q := (i : Int)) (r := (n : Int)) (show 0 < a by omega)).mpr ⟨by rw [Int.mul_comm a]; omega, by omega, d⟩
          rw [if_neg (show ¬ (cI a ≤ cI (n : Int)) by rw [cI_le (by omega) (by omega) (by omega) (by omega)]; omega), if_neg (show ¬ (8 ≤ cI (n : Int)) by rw [cL8, cI_le (by omega) (by omega) (by omega) (by omega)]; omega), cI_mul, cI_add, e_gd (cI_inT (by omega) (by omega) (by omega)), e_let, e_let, e_gd (cI_inT (by omega) (by omega) (by omega)), cI_nat (by omega) (by omega), e_let]
          refine ok_someI (Or.inl ⟨_, rfl, by omega, cI_add n 1, fun c hc => ?_, fun k j x y => ?_⟩)
          · have hc' : (c : Int) < (i : Int) * a + ((n + 1 : Nat) : Int) := hc
            by_cases y : (c : Int) = (i : Int) * a + (n : Int)
            · have e : c = ((i : Int) * a + (n : Int)).toNat := by omega
              rw [y, u.1, u.2, e]
              exact ⟨(gI_fr (by omega)).trans gI_eq, gI_eq⟩
            · have k := f1' c (by omega)
              exact ⟨(gI_fr (by omega)).trans ((gI_fr (by omega)).trans k.1), (gI_fr (by omega)).trans ((gI_fr (by omega)).trans k.2)⟩
          · exact (gI_fr (by omega)).trans ((gI_fr (by omega)).trans (f2' k j x y))
        · have e : (n : Int) = a := by omega
          rw [if_pos (show cI a ≤ cI (n : Int) by rw [cI_le (by omega) (by omega) (by omega) (by omega)]; omega)]
          exact ok_someI (Or.inr ⟨_, rfl, fun c hc => f1' c (by omega), f2'⟩)
      · rintro D2 ⟨k1, k2⟩
        unfold J_X4_lay_3_70
        rw [e_let]
        refine ok_someI (Or.inl ⟨_, rfl, by omega, cI_add i 1, fun c hc => k1 c ?_, (k2 _ _ (by omega) (by omega)).trans g2', (k2 _ _ (by omega) (by omega)).trans g3', fun k j z => (k2 k j (by omega) (by omega)).trans (g4' k j z)⟩)
        have hc' : (c : Int) < ((i : Int) + 1) * a := hc
        rw [Int.add_mul, Int.one_mul] at hc'
        exact hc'
    · have e : (i : Int) = b := by omega
      rw [if_pos (show cI b ≤ cI (i : Int) by rw [cI_le (by omega) (by omega) (by omega) (by omega)]; omega)]
      refine ok_someI (Or.inr ⟨_, rfl, fun c hc => g1' c ?_, g2', g3', g4'⟩)
      rw [e, Int.mul_comm]
      exact hc
  · rintro D1 ⟨g1, g2, g3, g4⟩
    unfold J_X4_lay_3_76
    refine ok_bindI (clrT3_ok.mono fun D2 k => ok_someI ?_)
    exact ⟨(k.2 _ _ (by omega)).trans g2, (k.2 _ _ (by omega)).trans g3, fun c hc => ⟨(k.2 _ _ (by omega)).trans (g1 c hc).1, (k.2 _ _ (by omega)).trans (g1 c hc).2⟩, k.1, fun k' j z => (k.2 _ _ (by omega)).trans (g4 k' j (by omega))⟩
theorem DP.town {D D' : aD} {T : aT} {a b : Int} (h : DP D T) (h4 : T 0 4 = 0) (k0 : gI D' 22 0 = cI a) (k1 : gI D' 22 1 = cI b) (k2 : ∀ c : Nat, (c : Int) < a * b → gI D' 23 c = cI ((c : Int) % a) ∧ gI D' 24 c = cI ((c : Int) / a)) (k3 : ∀ c : Nat, c < 64 → gI D' 25 c = cI 0) (k4 : ∀ k j : Nat, ¬ (22 ≤ k ∧ k ≤ 25) → gI D' k j = gI D k j) : DP D' (tS (tS T 0 0 a) 0 1 b) := by
  obtain ⟨h1, h2, h3, h4', h5, h6, h7, h8, h9, h10, h11⟩ := h
  have e0 : tS (tS T 0 0 a) 0 1 b 0 0 = a := by rw [tS_ne (by omega), tS_eq]
  have e1 : tS (tS T 0 0 a) 0 1 b 0 1 = b := tS_eq
  have eo : ∀ j : Nat, 2 ≤ j → tS (tS T 0 0 a) 0 1 b 0 j = T 0 j := fun j hj => by rw [tS_ne (by omega), tS_ne (by omega)]
  have er : ∀ k : Nat, k ≠ 0 → tS (tS T 0 0 a) 0 1 b k = T k := fun k hk => by rw [tS_r hk, tS_r hk]
  unfold DP
  rw [e0, e1, eo 2 (by omega), eo 4 (by omega), eo 5 (by omega), er 11 (by omega), er 12 (by omega)]
  refine ⟨k0, k1, fun i x y => ?_, fun w x => ?_, fun f s x y => ?_, fun q p x y => absurd y (by omega), fun i x => (k4 _ _ (by omega)).trans (h7 i x), fun m x => (k4 _ _ (by omega)).trans (h8 m x), fun s x => ?_, k2, fun c x => ?_⟩
  · rw [eo i x]; exact (k4 _ _ (by omega)).trans (h3 i x y)
  · rw [eo _ (by omega)]; exact (k4 _ _ (by omega)).trans (h4' w x)
  · rw [er _ (by omega)]; exact (k4 _ _ (by omega)).trans (h5 f s x y)
  · rw [k4 _ _ (by omega)]; exact h9 s x
  · rw [k3 c x]
    unfold takenN
    rw [eo 4 (by omega), h4]
    rfl
def twX (B : Nat → Int) (N : Nat) (x : aX) (T : aT) : aX × aT := (scX B N (tkX B N (nmX B N 2 8 (nmX B N 2 8 x).2).2), tS (tS T 0 0 (nmX B N 2 8 x).1) 0 1 (nmX B N 2 8 (nmX B N 2 8 x).2).1)
theorem nm_f {B : Nat → Int} {N : Nat} {a b : Int} {x : aX} (h : x.1 ≠ 0) : nmX B N a b x = (a, x) := by
  unfold nmX
  rw [tk_f h, nh_f h]
theorem tw_f {B : Nat → Int} {N : Nat} {x : aX} {T : aT} (h : x.1 ≠ 0) : (twX B N x T).1 = x := by
  unfold twX
  rw [nm_f h]
  dsimp only
  rw [nm_f h]
  dsimp only
  rw [tk_f h, sc_f h]
theorem ctown9_ok {D0 D : aD} {B : Nat → Int} {N q : Nat} {x : aX} {T : aT} (h : RD D B N q x) (f0 : f56 D0 D) (hD : DP D0 T) (hT : TOKp T) (h4 : x.1 = 0 → T 0 4 = 0) : Ok (J_X7_readTown_9 D) (dOK D0 B N q (twX B N x T)) := by
  have hq := hT.1
  have ra := nh_r (B := B) (N := N) (a := 2) (b := 8) (x := tkX B N x) (by omega)
  have rb := nh_r (B := B) (N := N) (a := 2) (b := 8) (x := tkX B N (nmX B N 2 8 x).2) (by omega)
  unfold J_X7_readTown_9
  refine ok_biI ((number_ok 2 8 h rfl rfl (by omega) (by omega) (by omega) (by omega)).mono fun r k => ?_)
  obtain ⟨y, D1⟩ := r
  obtain ⟨e, k1, k2⟩ := k
  obtain rfl : y = cI (nmX B N 2 8 x).1 := e
  have k1' : RD D1 B N q (nmX B N 2 8 x).2 := k1
  have k2' : f56 D D1 := k2
  dsimp only
  refine ok_biI ((number_ok 2 8 k1' rfl rfl (by omega) (by omega) (by omega) (by omega)).mono fun r k => ?_)
  obtain ⟨y, D2⟩ := r
  obtain ⟨e, k3, k4⟩ := k
  obtain rfl : y = cI (nmX B N 2 8 (nmX B N 2 8 x).2).1 := e
  have k3' : RD D2 B N q (nmX B N 2 8 (nmX B N 2 8 x).2).2 := k3
  have k4' : f56 D1 D2 := k4
  dsimp only
  refine ok_bindI ((lay22_ok (nmX B N 2 8 x).1 (nmX B N 2 8 (nmX B N 2 8 x).2).1 rfl rfl ra.1 ra.2 rb.1 rb.2).mono fun D3 k => ?_)
  obtain ⟨l0, l1, l2, l3, l4⟩ := k
  refine ok_bindI ((close_ok (k3'.fr (D' := D3) (fun k j a => l4 k j (by omega)))).mono fun D4 k5 => ok_someI ⟨k5.1, fD.fr (fun k j a b => (k5.2 k j b).trans ((l4 k j (by omega)).trans ((k4' k j b).trans ((k2' k j b).trans (f0 k j b))))), fun z => ?_⟩)
  have z0 : x.1 = 0 := Decidable.byContradiction fun y => y (by rw [tw_f y] at z; exact z)
  have t := DP.town (((hD.f5 (by omega) f0).f5 (by omega) k2').f5 (by omega) k4') (h4 z0) l0 l1 l2 l3 l4
  exact t.f5 (by show tS (tS T 0 0 (nmX B N 2 8 x).1) 0 1 (nmX B N 2 8 (nmX B N 2 8 x).2).1 0 2 ≤ 6; rw [tS_ne (by omega), tS_ne (by omega)]; omega) k5.2
def ctT : aT := fun k j => if k = 0 then (if j ≤ 1 then 6 else if j = 6 then 5 else if j = 7 ∨ j = 8 then 2 else if 10 ≤ j ∧ j ≤ 14 then 1 else 0) else 0
theorem ct_w : ∀ w : Nat, w < 5 → ctT 0 (10 + w) = 1 := by decide
theorem ct_r {k : Nat} (h : k ≠ 0) (j : Nat) : ctT k j = 0 := if_neg h
theorem ct_T : TOKp ctT := by
  have e0 : ctT 0 0 = 6 := by decide
  have e1 : ctT 0 1 = 6 := by decide
  have e2 : ctT 0 2 = 0 := by decide
  have e3 : ctT 0 3 = 0 := by decide
  have e4 : ctT 0 4 = 0 := by decide
  have e5 : ctT 0 5 = 0 := by decide
  have e6 : ctT 0 6 = 5 := by decide
  have e7 : ctT 0 7 = 2 := by decide
  have e8 : ctT 0 8 = 2 := by decide
  have e9 : ctT 0 9 = 0 := by decide
  unfold TOKp
  rw [e0, e1, e2, e3, e4, e5, e6, e7, e8, e9]
  refine ⟨by decide, fun w hw => ?_, fun s hs => absurd hs (by omega), fun p hs => absurd hs (by omega), fun i hs => absurd hs (by omega), fun m hm => ?_⟩
  · rw [ct_w w hw]; omega
  · rw [ct_r (by omega)]; omega
theorem clear21_ok {D : aD} : Ok (f_X6_clear_21 D) (fun D' => DP D' ctT ∧ ∀ k j : Nat, ¬ (21 ≤ k ∧ k ≤ 33) → gI D' k j = gI D k j) := by
  unfold f_X6_clear_21
  refine ok_bindI ((lay22_ok 6 6 rfl rfl (by omega) (by omega) (by omega) (by omega)).mono fun D1 k => ?_)
  obtain ⟨l0, l1, l2, l3, l4⟩ := k
  rw [e_let, e_let, e_let, e_let, e_let, e_let, e_let, e_let]
  refine ok_bindI ((fill_ok (a := 31) (n := 36) (v := 0) (by omega)).mono fun D2 k => ?_)
  obtain ⟨a1, a2, -⟩ := k
  unfold J_X6_clear_21_61
  refine ok_bindI ((ok_lp (fun i t => t.1 = cI (i : Int) ∧ (∀ c : Nat, c < i → gI t.2 32 c = cI 0) ∧ ∀ k j : Nat, k ≠ 32 → gI t.2 k j = gI D2 k j) 6 (by omega) ⟨rfl, fun c hc => absurd hc (by omega), fun _ _ _ => rfl⟩ ?_ (K := fun D' => (∀ c : Nat, c < 6 → gI D' 32 c = cI 0) ∧ ∀ k j : Nat, k ≠ 32 → gI D' k j = gI D2 k j)).mono ?_)
  · rintro i ⟨v, D3⟩ hi ⟨rfl, g1, g2⟩
    show Ok (B_X6_clear_21_61 (cI (i : Int)) D3) _
    have g1' : ∀ c : Nat, c < i → gI D3 32 c = cI 0 := g1
    have g2' : ∀ k j : Nat, k ≠ 32 → gI D3 k j = gI D2 k j := g2
    unfold B_X6_clear_21_61
    by_cases c : i < 6
    · have e1 : ((i : Int)).toNat = i := by omega
      rw [if_neg (show ¬ (6 ≤ cI (i : Int)) by rw [cL6, cI_le (by omega) (by omega) (by omega) (by omega)]; omega), e_gd (cI_inT (by omega) (by omega) (by omega)), e_let, e_let, cI_nat (by omega) (by omega), e1]
      refine ok_someI (Or.inl ⟨_, rfl, c, cI_add i 1, fun d hd => ?_, fun k j a => (gI_fr (by omega)).trans (g2' k j a)⟩)
      by_cases y : d = i
      · subst y; exact gI_eq
      · exact (gI_fr (by omega)).trans (g1' d (by omega))
    · obtain rfl : i = 6 := by omega
      rw [if_pos (show 6 ≤ cI ((6 : Nat) : Int) by decide)]
      exact ok_someI (Or.inr ⟨_, rfl, g1', g2'⟩)
  · rintro D3 ⟨b1, b2⟩
    unfold J_X6_clear_21_80
    refine ok_bindI ((fill_ok (a := 33) (n := 5) (v := 1) (by omega)).mono fun D4 k => ok_someI ?_)
    obtain ⟨c1, c2, -⟩ := k
    have all : ∀ k j : Nat, k ≠ 31 → k ≠ 32 → k ≠ 33 → gI D4 k j = gI (pI (pI (pI (pI (pI (pI (pI (pI D1 21 2 0) 21 3 0) 21 4 0) 21 5 0) 21 6 5) 21 7 2) 21 8 2) 21 9 0) k j := fun k j x y z => (c2 k j (by omega)).trans ((b2 k j y).trans (a2 k j (by omega)))
    have al2 : ∀ k j : Nat, k ≠ 21 → k ≠ 31 → k ≠ 32 → k ≠ 33 → gI D4 k j = gI D1 k j := fun k j w x y z => by
      rw [all k j x y z, gI_ne w, gI_ne w, gI_ne w, gI_ne w, gI_ne w, gI_ne w, gI_ne w, gI_ne w]
    refine ⟨⟨(al2 _ _ (by omega) (by omega) (by omega) (by omega)).trans l0, (al2 _ _ (by omega) (by omega) (by omega) (by omega)).trans l1, fun j x y => ?_, fun w x => ?_, fun f s x y => absurd y (by rw [show ctT 0 2 = 0 by decide]; omega), fun r p x y => absurd y (by rw [show ctT 0 4 = 0 by decide]; omega), fun i x => absurd x (by rw [show ctT 0 5 = 0 by decide]; omega), fun m x => ?_, fun s x => Or.inl ⟨?_, fun m _ => ct_r (by omega) _⟩, fun c x => ?_, fun c x => ?_⟩, fun k j x => ?_⟩
    · rw [all 21 j (by omega) (by omega) (by omega)]
      have e : j = 2 ∨ j = 3 ∨ j = 4 ∨ j = 5 ∨ j = 6 ∨ j = 7 ∨ j = 8 ∨ j = 9 := by omega
      rcases e with rfl | rfl | rfl | rfl | rfl | rfl | rfl | rfl <;> rfl
    · rw [c1 w x, ct_w w x]; rfl
    · rw [c2 _ _ (by omega), b2 _ _ (by omega), a1 m x, ct_r (by omega)]; rfl
    · rw [c2 _ _ (by omega)]; exact b1 s x
    · rw [al2 _ _ (by omega) (by omega) (by omega) (by omega), al2 _ _ (by omega) (by omega) (by omega) (by omega)]
      exact l2 c x
    · rw [al2 _ _ (by omega) (by omega) (by omega) (by omega), l3 c x]
      rfl
    · rw [al2 _ _ (by omega) (by omega) (by omega) (by omega)]
      exact l4 k j (by omega)
end GRD
