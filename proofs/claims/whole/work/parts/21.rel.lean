/-! A TOWN AS NUMBERS: rows by key; both sides' cells hold them -/
abbrev aT : Type := Nat → Nat → Int
section REL
/-- 0 what count() tells (width, height, sorts, gardens, plants, gates, fade, gain, against, cold, five weights); 1 strength, 2 3 weeks, 4 5 hours, 6 liking, 7 herb, by sorts; 8 sort, 9 cell, 10 garden, by plants; 11 gates' cells; 12 masks -/
def TOKp (T : aT) : Prop := (2 ≤ T 0 0 ∧ T 0 0 ≤ 8 ∧ 2 ≤ T 0 1 ∧ T 0 1 ≤ 8 ∧ 4 ≤ T 0 0 * T 0 1 ∧ T 0 0 * T 0 1 ≤ 64 ∧ 0 ≤ T 0 2 ∧ T 0 2 ≤ 6 ∧ 0 ≤ T 0 3 ∧ T 0 3 ≤ 5 ∧ 0 ≤ T 0 4 ∧ T 0 4 ≤ 12 ∧ 0 ≤ T 0 5 ∧ T 0 5 ≤ 5 ∧ 0 ≤ T 0 6 ∧ T 0 6 ≤ 20 ∧ 0 ≤ T 0 7 ∧ T 0 7 ≤ 9 ∧ 0 ≤ T 0 8 ∧ T 0 8 ≤ 14 ∧ 0 ≤ T 0 9 ∧ T 0 9 ≤ 99) ∧
  (∀ w : Nat, w < 5 → 0 ≤ T 0 (10 + w) ∧ T 0 (10 + w) ≤ 99) ∧
  (∀ s : Nat, (s : Int) < T 0 2 → 1 ≤ T 1 s ∧ T 1 s ≤ 99 ∧ 0 ≤ T 2 s ∧ T 2 s ≤ 51 ∧ 0 ≤ T 3 s ∧ T 3 s ≤ 51 ∧ 0 ≤ T 4 s ∧ T 4 s ≤ 23 ∧ 0 ≤ T 5 s ∧ T 5 s ≤ 23 ∧ -9 ≤ T 6 s ∧ T 6 s ≤ 9 ∧ 0 ≤ T 7 s ∧ T 7 s ≤ 1) ∧
  (∀ p : Nat, (p : Int) < T 0 4 → 0 ≤ T 8 p ∧ T 8 p < T 0 2 ∧ 0 ≤ T 9 p ∧ T 9 p < T 0 0 * T 0 1 ∧ -1 ≤ T 10 p ∧ T 10 p < T 0 3) ∧
  (∀ i : Nat, (i : Int) < T 0 5 → 0 ≤ T 11 i ∧ T 11 i < T 0 0 * T 0 1) ∧
  (∀ m : Nat, m < 36 → 0 ≤ T 12 m ∧ T 12 m ≤ 100)
/-- 13 how plants are; 14 the order of gates; 15 begin, week, how many nosed; 16 to 19 what was nosed; 20 what was refused -/
def TOKn (T : aT) : Prop := (0 ≤ T 15 0 ∧ T 15 0 ≤ 23 ∧ 0 ≤ T 15 1 ∧ T 15 1 ≤ 51 ∧ 0 ≤ T 15 2 ∧ T 15 2 ≤ 12) ∧
  (∀ p : Nat, (p : Int) < T 0 4 → 0 ≤ T 13 p ∧ T 13 p ≤ 2) ∧
  (∀ i : Nat, (i : Int) < T 0 5 → 0 ≤ T 14 i ∧ T 14 i < T 0 5) ∧
  (∀ i : Nat, (i : Int) < T 15 2 → 0 ≤ T 16 i ∧ T 16 i < T 0 5 ∧ 0 ≤ T 17 i ∧ T 17 i ≤ 23 ∧ 0 ≤ T 18 i ∧ T 18 i < T 0 2 ∧ 0 ≤ T 19 i ∧ T 19 i ≤ 9999)
def takenN (T : aT) (c : Nat) : Bool := (List.range (T 0 4).toNat).any (fun p => T 9 p == (c : Int))
/-- the class's Plan whose first cell is b -/
def CP (D : aD) (b : Nat) (T : aT) : Prop := gI D (b + 1) 0 = cI (T 0 0) ∧ gI D (b + 1) 1 = cI (T 0 1) ∧ (∀ j : Nat, 2 ≤ j → j ≤ 9 → gI D b j = cI (T 0 j)) ∧
  (∀ w : Nat, w < 5 → gI D (b + 12) w = cI (T 0 (10 + w))) ∧
  (∀ f s : Nat, f < 7 → (s : Int) < T 0 2 → gI D (b + 13 + s) f = cI (T (1 + f) s)) ∧
  (∀ r p : Nat, r < 3 → (p : Int) < T 0 4 → gI D (b + 6 + r) p = cI (T (8 + r) p)) ∧
  (∀ i : Nat, (i : Int) < T 0 5 → gI D (b + 9) i = cI (T 11 i)) ∧
  (∀ m : Nat, m < 36 → gI D (b + 10) m = cI (T 12 m)) ∧
  (∀ s : Nat, s < 6 → (gI D (b + 11) s = cI 0 ∧ ∀ m : Nat, m < 6 → T 12 (m * 6 + s) = 0) ∨ gI D (b + 11) s = cI 1) ∧
  (∀ c : Nat, (c : Int) < T 0 0 * T 0 1 → gI D (b + 2) c = cI ((c : Int) % T 0 0) ∧ gI D (b + 3) c = cI ((c : Int) / T 0 0)) ∧
  (∀ c : Nat, c < 64 → gI D (b + 4) c = cI (if takenN T c then 1 else 0))
/-- what calls change, in cells h (how), o (order), n (nosed), st (refused), fields of fk from f -/
def aNow (D : aD) (h o n st fk f : Nat) (T : aT) : Prop := (∀ p : Nat, (p : Int) < T 0 4 → gI D h p = cI (T 13 p)) ∧ (∀ i : Nat, i < 5 → gI D o i = cI (T 14 i)) ∧ (∀ r i : Nat, r < 4 → i < 12 → gI D (n + r) i = cI (T (16 + r) i)) ∧ (∀ i : Nat, i < 3 → gI D st i = cI (T 20 i)) ∧ (∀ j : Nat, j < 3 → gI D fk (f + j) = cI (T 15 j))
/-- the reference's town -/
def MT (D : aD) (T : aT) : Prop := (∀ j : Nat, j < 15 → gI D 91 j = cI (T 0 j)) ∧
  (∀ f s : Nat, f < 7 → (s : Int) < T 0 2 → gI D (92 + f) s = cI (T (1 + f) s)) ∧
  (∀ r p : Nat, r < 3 → (p : Int) < T 0 4 → gI D (99 + r) p = cI (T (8 + r) p)) ∧
  (∀ i : Nat, (i : Int) < T 0 5 → gI D 102 i = cI (T 11 i)) ∧
  (∀ m : Nat, m < 36 → gI D 103 m = cI (T 12 m)) ∧ gI D 88 30 = cI (T 0 4)
def mixT (T K : aT) : aT := fun k j => if k < 13 then T k j else K k j
def bSg (b : Int) : Int := if b < 128 then b else b - 256
def aTape (D : aD) (L : Int) (B : Nat → Int) : Prop := gI D 0 1 = cI L ∧ gI D 88 18 = cI L ∧ 0 ≤ L ∧ L ≤ 700 ∧ ∀ j : Nat, (j : Int) < L → 0 ≤ B j ∧ B j < 256 ∧ gI D 1 j = cI (bSg (B j)) ∧ gI D 105 j = cI (B j)
def aKept (D : aD) (T K : aT) : Prop := (gI D 0 7 = cI 0 ∧ gI D 88 55 = cI 0) ∨ (gI D 0 7 = cI 1 ∧ gI D 88 55 = cI 1 ∧ TOKn (mixT T K) ∧ aNow D 49 50 51 55 48 2 (mixT T K) ∧ aNow D 125 126 127 131 88 56 (mixT T K))
def CNow (D : aD) (T : aT) : Prop := aNow D 41 42 43 47 40 2 T
def MNow (D : aD) (T : aT) : Prop := aNow D 106 107 118 104 88 31 T
def aTops (D : aD) : Prop := gI D 90 0 = cI 20 ∧ gI D 90 1 = cI 9 ∧ gI D 90 2 = cI 14 ∧ gI D 90 3 = cI 99 ∧ ∀ s : Nat, s < 6 → gI D (34 + s) 6 = cI 0 ∨ gI D (34 + s) 6 = cI 1
/-- what is kept from call to call of the law's script -/
def rel (T K : aT) (L : Int) (B : Nat → Int) (D : aD) : Prop := TOKp T ∧ TOKn T ∧ CP D 2 T ∧ CNow D T ∧ MT D T ∧ MNow D T ∧ aKept D T K ∧ aTape D L B ∧ gI D 0 2 = gI D 88 27 ∧ aTops D
def lawP (D : aD) : Prop := ∃ (T K : aT) (L : Int) (B : Nat → Int), rel T K L B D
/-- all cells but these are as they were -/
def eqC (D D' : aD) : Prop := ∀ k j : Nat, ¬ (57 ≤ k ∧ k < 88) → gI D' k j = gI D k j
def mScr (k j : Nat) : Prop := (108 ≤ k ∧ k ≤ 117) ∨ (122 ≤ k ∧ k ≤ 124) ∨ (k = 88 ∧ (j = 2 ∨ (41 ≤ j ∧ j ≤ 46) ∨ j = 52))
def eqM (D D' : aD) : Prop := (∀ k j : Nat, ¬ mScr k j → gI D' k j = gI D k j) ∧ D'.2 = D.2
theorem aNow.fr {D D' : aD} {h o n st fk f : Nat} {T : aT} (H : aNow D h o n st fk f T) (e1 : ∀ j, gI D' h j = gI D h j) (e2 : ∀ j, gI D' o j = gI D o j) (e3 : ∀ r j, r < 4 → gI D' (n + r) j = gI D (n + r) j) (e4 : ∀ j, gI D' st j = gI D st j) (e5 : ∀ j, j < 3 → gI D' fk (f + j) = gI D fk (f + j)) : aNow D' h o n st fk f T :=
  ⟨fun p hp => (e1 p).trans (H.1 p hp), fun i hi => (e2 i).trans (H.2.1 i hi), fun r i hr hi => (e3 r i hr).trans (H.2.2.1 r i hr hi), fun i hi => (e4 i).trans (H.2.2.2.1 i hi), fun j hj => (e5 j hj).trans (H.2.2.2.2 j hj)⟩
theorem CP.fr {D D' : aD} {b : Nat} {T : aT} (hT : TOKp T) (H : CP D b T) (e : ∀ k j, k < 19 → gI D' (b + k) j = gI D (b + k) j) : CP D' b T := by
  obtain ⟨h1, h2, h3, h4, h5, h6, h7, h8, h9, h10, h11⟩ := H
  have hS : T 0 2 ≤ 6 := hT.1.2.2.2.2.2.2.2.1
  refine ⟨(e 1 0 (by omega)).trans h1, (e 1 1 (by omega)).trans h2, fun j a b => (e 0 j (by omega)).trans (h3 j a b), fun w a => (e 12 w (by omega)).trans (h4 w a), fun f s a b => ?_, fun r p a c => ?_, fun i a => (e 9 i (by omega)).trans (h7 i a), fun m a => (e 10 m (by omega)).trans (h8 m a), fun s a => ?_, fun c a => ⟨(e 2 c (by omega)).trans (h10 c a).1, (e 3 c (by omega)).trans (h10 c a).2⟩, fun c a => (e 4 c (by omega)).trans (h11 c a)⟩
  · rw [Nat.add_assoc, e (13 + s) f (by omega), ← Nat.add_assoc]
    exact h5 f s a b
  · rw [Nat.add_assoc, e (6 + r) p (by omega), ← Nat.add_assoc]
    exact h6 r p a c
  · rw [e 11 s (by omega)]
    exact h9 s a
theorem MT.fr {D D' : aD} {T : aT} (H : MT D T) (e : ∀ k j, 91 ≤ k → k ≤ 103 → gI D' k j = gI D k j) (e2 : gI D' 88 30 = gI D 88 30) : MT D' T := by
  obtain ⟨h1, h2, h3, h4, h5, h6⟩ := H
  exact ⟨fun j a => (e 91 j (by omega) (by omega)).trans (h1 j a), fun f s a b => (e (92 + f) s (by omega) (by omega)).trans (h2 f s a b), fun r p a b => (e (99 + r) p (by omega) (by omega)).trans (h3 r p a b), fun i a => (e 102 i (by omega) (by omega)).trans (h4 i a), fun m a => (e 103 m (by omega) (by omega)).trans (h5 m a), e2.trans h6⟩
/-- what a call does not touch stays -/
theorem rel.fr {D D' : aD} {T K : aT} {L : Int} {B : Nat → Int} (H : rel T K L B D)
    (e : ∀ k j : Nat, ¬ (57 ≤ k ∧ k < 88) → ¬ mScr k j → gI D' k j = gI D k j) : rel T K L B D' := by
  obtain ⟨hp, hn, h1, h2, h3, h4, h5, h6, h7, h8⟩ := H
  have eM : ∀ k j : Nat, k < 57 → gI D' k j = gI D k j := fun k j hk => e k j (by omega) (by unfold mScr; omega)
  have e88 : ∀ j : Nat, j ≠ 2 → (j < 41 ∨ 46 < j) → j ≠ 52 → gI D' 88 j = gI D 88 j := fun j a b c => e 88 j (by omega) (by unfold mScr; omega)
  have eN : ∀ k j : Nat, 89 ≤ k → k < 132 → (k < 108 ∨ 117 < k) → (k < 122 ∨ 124 < k) → gI D' k j = gI D k j := fun k j a b c d => e k j (by omega) (by unfold mScr; omega)
  refine ⟨hp, hn, h1.fr hp (fun k j hk => eM _ j (by omega)), aNow.fr h2 (fun j => eM _ j (by omega)) (fun j => eM _ j (by omega)) (fun r j hr => eM _ j (by omega)) (fun j => eM _ j (by omega)) (fun j hj => eM _ _ (by omega)), h3.fr (fun k j a b => eN k j (by omega) (by omega) (by omega) (by omega)) (e88 _ (by omega) (by omega) (by omega)), aNow.fr h4 (fun j => eN _ j (by omega) (by omega) (by omega) (by omega)) (fun j => eN _ j (by omega) (by omega) (by omega) (by omega)) (fun r j hr => eN _ j (by omega) (by omega) (by omega) (by omega)) (fun j => eN _ j (by omega) (by omega) (by omega) (by omega)) (fun j hj => e88 _ (by omega) (by omega) (by omega)), ?_, ?_, ?_, ?_⟩
  · rcases h5 with ⟨a, b⟩ | ⟨a, b, c, d, f⟩
    · exact Or.inl ⟨(eM 0 7 (by omega)).trans a, (e88 _ (by omega) (by omega) (by omega)).trans b⟩
    · exact Or.inr ⟨(eM 0 7 (by omega)).trans a, (e88 _ (by omega) (by omega) (by omega)).trans b, c, aNow.fr d (fun j => eM _ j (by omega)) (fun j => eM _ j (by omega)) (fun r j hr => eM _ j (by omega)) (fun j => eM _ j (by omega)) (fun j hj => eM _ _ (by omega)), aNow.fr f (fun j => eN _ j (by omega) (by omega) (by omega) (by omega)) (fun j => eN _ j (by omega) (by omega) (by omega) (by omega)) (fun r j hr => eN _ j (by omega) (by omega) (by omega) (by omega)) (fun j => eN _ j (by omega) (by omega) (by omega) (by omega)) (fun j hj => e88 _ (by omega) (by omega) (by omega))⟩
  · obtain ⟨a, b, c, d, f⟩ := h6
    exact ⟨(eM 0 1 (by omega)).trans a, (e88 _ (by omega) (by omega) (by omega)).trans b, c, d, fun j hj => ⟨(f j hj).1, (f j hj).2.1, (eM 1 j (by omega)).trans (f j hj).2.2.1, (eN 105 j (by omega) (by omega) (by omega) (by omega)).trans (f j hj).2.2.2⟩⟩
  · rw [eM 0 2 (by omega), e88 27 (by omega) (by omega) (by omega)]
    exact h7
  · obtain ⟨a, b, c, d, w⟩ := h8
    exact ⟨(eN 90 0 (by omega) (by omega) (by omega) (by omega)).trans a, (eN 90 1 (by omega) (by omega) (by omega) (by omega)).trans b, (eN 90 2 (by omega) (by omega) (by omega) (by omega)).trans c, (eN 90 3 (by omega) (by omega) (by omega) (by omega)).trans d, fun s hs => by rw [eM (34 + s) 6 (by omega)]; exact w s hs⟩
/-- the answer of a method that may throw one thing -/
def wX (E : String) (w : Option Int32) : String ⊕ Int32 := match w with
  | none => .inl E
  | some y => .inr y
def wM (w : Option Int32) (c y : Int32) : Prop := match w with
  | none => c = cI 1
  | some z => c = cI 0 ∧ y = z
theorem lg_same (x : Int64) : lg_cmp x x = cI 0 := by
  unfold lg_cmp
  simp [Int64.lt_irrefl]
  rfl
/-- one step of the law by a helper: both sides answer by the same w -/
theorem relJ {D : aD} {T K : aT} {L : Int} {B : Nat → Int} {k j : Nat} {x : Int64} (H : rel T K L B D) : rel T K L B (pJ D k j x) := H
theorem hp_step {fc : Option ((String ⊕ Int32) × aD)} {E : String} {fm : aD → Option (Int32 × aD)} {C P : aD → Prop} (w : Option Int32) (hJ : ∀ (D : aD) (x : Int64), C D → C (pJ D 132 0 x))
    (hc : Ok fc (fun r => r.1 = wX E w ∧ C r.2)) (hm : ∀ D : aD, C D → Ok (fm D) (fun r => wM w (gI r.2 88 2) r.1 ∧ r.2.2 = D.2 ∧ P r.2)) :
    Ok2 (aBi (aHp1 fc E) (fun x0 D => aBi (fm D) (fun x1 D => aBi (f_X12_thrown D) (fun x2 D => if x2 = x0 then if x0 ≠ 0 then some ((1 : Int32), D) else if (lg_cmp (gJ D 132 0) x1.toInt64) = 0 then some (1, D) else some (0, D) else some (0, D))))) (fun r D => r = 1 ∧ P D) := by
  rw [ok_2, ok_bi]
  obtain ⟨⟨q, D1⟩, rfl, h1, h2⟩ := hc
  cases w with
  | none =>
    obtain rfl : q = .inl E := h1
    refine ⟨(1, D1), by simp [aHp1], ?_⟩
    refine ok_biI ?_
    obtain ⟨⟨y, D2⟩, e2, h3, -, h5⟩ := hm D1 h2
    refine ⟨(y, D2), e2, ?_⟩
    refine ok_biI (ok_someI ?_)
    have h3' : gI D2 88 2 = cI 1 := h3
    show Ok (if gI D2 88 2 = 1 then if (1 : Int32) ≠ 0 then some ((1 : Int32), D2) else _ else some (0, D2)) _
    rw [if_pos (show gI D2 88 2 = 1 from h3'), if_pos (by decide), ok_some]
    exact ⟨rfl, h5⟩
  | some z =>
    obtain rfl : q = .inr z := h1
    refine ⟨(0, pJ D1 132 0 z.toInt64), by simp [aHp1], ?_⟩
    refine ok_biI ?_
    obtain ⟨⟨y, D2⟩, e2, h3, h4, h5⟩ := hm _ (hJ D1 z.toInt64 h2)
    refine ⟨(y, D2), e2, ?_⟩
    refine ok_biI (ok_someI ?_)
    obtain ⟨h3, h6⟩ : gI D2 88 2 = cI 0 ∧ y = z := h3
    subst h6
    show Ok (if gI D2 88 2 = 0 then if (0 : Int32) ≠ 0 then some ((1 : Int32), D2) else if lg_cmp (gJ D2 132 0) y.toInt64 = 0 then some (1, D2) else some (0, D2) else some (0, D2)) _
    have e9 : gJ D2 132 0 = y.toInt64 := by
      rw [gJ_of h4]
      exact gJ_eq
    rw [if_pos (show gI D2 88 2 = 0 from h3), if_neg (by decide), e9, if_pos (show lg_cmp y.toInt64 y.toInt64 = 0 from lg_same _), ok_some]
    exact ⟨rfl, h5⟩
end REL
