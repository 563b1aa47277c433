/-! what a new one holds -/
section NEW
def T0 : aT := fun k j => if k = 0 then (([6, 6, 0, 0, 0, 0, 5, 2, 2, 0, 1, 1, 1, 1, 1] : List Int).getD j 0) else if k = 14 then (j : Int) else if k = 15 ∧ j = 0 then 12 else 0
def newP (D : aD) : Prop := (gI D 3 0 = cI 6 ∧ gI D 3 1 = cI 6) ∧ (∀ j : Nat, j < 10 → 2 ≤ j → gI D 2 j = cI (T0 0 j)) ∧ (∀ w : Nat, w < 5 → gI D 14 w = cI 1) ∧ (∀ m : Nat, m < 36 → gI D 12 m = cI 0) ∧ (∀ s : Nat, s < 6 → gI D 13 s = cI 0) ∧
  (∀ c : Nat, c < 36 → gI D 4 c = cI ((c : Int) % 6) ∧ gI D 5 c = cI ((c : Int) / 6)) ∧ (∀ c : Nat, c < 64 → gI D 6 c = cI 0) ∧
  (∀ i : Nat, i < 5 → gI D 42 i = cI (i : Int) ∧ gI D 107 i = cI (i : Int)) ∧ (∀ r : Nat, r < 4 → ∀ i : Nat, i < 12 → gI D (43 + r) i = cI 0 ∧ gI D (118 + r) i = cI 0) ∧ (∀ i : Nat, i < 3 → gI D 47 i = cI 0 ∧ gI D 104 i = cI 0) ∧
  (gI D 40 2 = cI 12 ∧ gI D 40 3 = cI 0 ∧ gI D 40 4 = cI 0 ∧ gI D 88 31 = cI 12 ∧ gI D 88 32 = cI 0 ∧ gI D 88 33 = cI 0) ∧
  (∀ j : Nat, j < 15 → gI D 91 j = cI (T0 0 j)) ∧ (∀ m : Nat, m < 36 → gI D 103 m = cI 0) ∧ gI D 88 30 = cI 0 ∧ gI D 0 7 = cI 0 ∧ gI D 88 55 = cI 0 ∧ gI D 0 1 = cI 0 ∧ gI D 88 18 = cI 0 ∧ gI D 0 2 = gI D 88 27 ∧
  (gI D 90 0 = cI 20 ∧ gI D 90 1 = cI 9 ∧ gI D 90 2 = cI 14 ∧ gI D 90 3 = cI 99 ∧ ∀ s : Nat, s < 6 → gI D (34 + s) 6 = cI 0)
theorem newP_rel {D : aD} (h : newP D) : lawP D := by
  obtain ⟨⟨a1, a2⟩, a3, a4, a5, a6, a7, a8, a9, b1, b2, ⟨b3, b4, b5, b6, b7, b8⟩, c1, c2, c3, c4, c5, c6, c7, c8, c9⟩ := h
  have w1 : ∀ w : Nat, w < 5 → T0 0 (10 + w) = 1 := by decide
  refine ⟨T0, T0, 0, fun _ => 0, ?_, ?_, ?_, ?_, ?_, ?_, Or.inl ⟨c4, c5⟩, ⟨c6, c7, by omega, by omega, fun j hj => absurd hj (by omega)⟩, c8, c9.1, c9.2.1, c9.2.2.1, c9.2.2.2.1, fun s hs => Or.inl (c9.2.2.2.2 s hs)⟩
  · refine ⟨by decide, by decide, fun s hs => absurd hs (by show ¬ ((s : Int) < 0); omega), fun s hs => absurd hs (by show ¬ ((s : Int) < 0); omega), fun s hs => absurd hs (by show ¬ ((s : Int) < 0); omega), by decide⟩
  · exact ⟨by decide, fun s hs => absurd hs (by show ¬ ((s : Int) < 0); omega), fun s hs => absurd hs (by show ¬ ((s : Int) < 0); omega), fun s hs => absurd hs (by show ¬ ((s : Int) < 0); omega)⟩
  · refine ⟨a1, a2, fun j x y => a3 j (by omega) x, fun w hw => by rw [w1 w hw]; exact a4 w hw, fun f s _ hs => absurd hs (by show ¬ ((s : Int) < 0); omega), fun r p _ hs => absurd hs (by show ¬ ((p : Int) < 0); omega), fun i hs => absurd hs (by show ¬ ((i : Int) < 0); omega), fun m hm => a5 m hm, fun s hs => Or.inl ⟨a6 s hs, fun m hm => rfl⟩, fun c hc => a7 c (by have : (c : Int) < 36 := hc; omega), fun c hc => ?_⟩
    have t : takenN T0 c = false := rfl
    rw [t]
    exact a8 c hc
  · exact ⟨fun s hs => absurd hs (by show ¬ ((s : Int) < 0); omega), fun i hi => (a9 i hi).1, fun r i hr hi => by
      have e : T0 (16 + r) i = 0 := by unfold T0; rw [if_neg (by omega), if_neg (by omega), if_neg (by omega)]
      rw [e]; exact (b1 r hr i hi).1, fun i hi => (b2 i hi).1, fun j hj => by
      have e : j = 0 ∨ j = 1 ∨ j = 2 := by omega
      rcases e with rfl | rfl | rfl
      · exact b3
      · exact b4
      · exact b5⟩
  · exact ⟨fun j hj => c1 j hj, fun f s _ hs => absurd hs (by show ¬ ((s : Int) < 0); omega), fun r p _ hs => absurd hs (by show ¬ ((p : Int) < 0); omega), fun i hs => absurd hs (by show ¬ ((i : Int) < 0); omega), fun m hm => c2 m hm, c3⟩
  · exact ⟨fun s hs => absurd hs (by show ¬ ((s : Int) < 0); omega), fun i hi => (a9 i hi).2, fun r i hr hi => by
      have e : T0 (16 + r) i = 0 := by unfold T0; rw [if_neg (by omega), if_neg (by omega), if_neg (by omega)]
      rw [e]; exact (b1 r hr i hi).2, fun i hi => (b2 i hi).2, fun j hj => by
      have e : j = 0 ∨ j = 1 ∨ j = 2 := by omega
      rcases e with rfl | rfl | rfl
      · exact b6
      · exact b7
      · exact b8⟩
end NEW
