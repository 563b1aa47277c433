/-! town: the class's lines -/
section LIN
def DP (D : aD) (T : aT) : Prop := gI D 22 0 = cI (T 0 0) ∧ gI D 22 1 = cI (T 0 1) ∧ (∀ j : Nat, 2 ≤ j → j ≤ 9 → gI D 21 j = cI (T 0 j)) ∧ (∀ w : Nat, w < 5 → gI D 33 w = cI (T 0 (10 + w))) ∧
  (∀ f s : Nat, f < 7 → (s : Int) < T 0 2 → gI D (34 + s) f = cI (T (1 + f) s)) ∧ (∀ r p : Nat, r < 3 → (p : Int) < T 0 4 → gI D (27 + r) p = cI (T (8 + r) p)) ∧ (∀ i : Nat, (i : Int) < T 0 5 → gI D 30 i = cI (T 11 i)) ∧
  (∀ m : Nat, m < 36 → gI D 31 m = cI (T 12 m)) ∧ (∀ s : Nat, s < 6 → (gI D 32 s = cI 0 ∧ ∀ m : Nat, m < 6 → T 12 (m * 6 + s) = 0) ∨ gI D 32 s = cI 1) ∧
  (∀ c : Nat, (c : Int) < T 0 0 * T 0 1 → gI D 23 c = cI ((c : Int) % T 0 0) ∧ gI D 24 c = cI ((c : Int) / T 0 0)) ∧ (∀ c : Nat, c < 64 → gI D 25 c = cI (if takenN T c then 1 else 0))
theorem DP.of {D : aD} {T : aT} (h : CP D 21 T) : DP D T := h
theorem DP.cp {D : aD} {T : aT} (h : DP D T) : CP D 21 T := h
def hZ (D : aD) : Prop := ∀ s : Nat, s < 6 → gI D (34 + s) 6 = cI 0 ∨ gI D (34 + s) 6 = cI 1
def fD (D D' : aD) : Prop := (∀ k j : Nat, ¬ (21 ≤ k ∧ k ≤ 39) → k ≠ 56 → gI D' k j = gI D k j) ∧ (hZ D → hZ D')
theorem fD.fr {D D' : aD} (h : ∀ k j : Nat, ¬ (21 ≤ k ∧ k ≤ 33) → k ≠ 56 → gI D' k j = gI D k j) : fD D D' := ⟨fun k j a b => h k j (by omega) b, fun z s hs => by rw [h (34 + s) 6 (by omega) (by omega)]; exact z s hs⟩
theorem fD.rf {D : aD} : fD D D := ⟨fun _ _ _ _ => rfl, fun z => z⟩
theorem fD.of {D D' : aD} (h : f56 D D') : fD D D' := fD.fr (fun k j _ b => h k j b)
theorem fD.tr {D D1 D2 : aD} (a : fD D D1) (b : fD D1 D2) : fD D D2 := ⟨fun k j h h' => (b.1 k j h h').trans (a.1 k j h h'), fun z => b.2 (a.2 z)⟩
theorem fD.wr' {D D1 : aD} {k j : Nat} {v : Int32} (a : fD D D1) (hk : 21 ≤ k) (hk2 : k ≤ 39) (hz : k < 34 ∨ j ≠ 6 ∨ v = cI 0 ∨ v = cI 1) : fD D (pI D1 k j v) := by
  refine ⟨fun k' j' h h' => (gI_fr (by omega)).trans (a.1 k' j' h h'), fun z s hs => ?_⟩
  by_cases y : 34 + s = k ∧ j = 6
  · obtain ⟨rfl, rfl⟩ := y
    rw [gI_eq]
    rcases hz with c | c | c | c
    · omega
    · exact absurd rfl c
    · exact Or.inl c
    · exact Or.inr c
  · rw [gI_fr (by omega)]
    exact a.2 z s hs
theorem fD.wr {D D1 : aD} {k j : Nat} {v : Int32} (a : fD D D1) (hk : 21 ≤ k) (hk2 : k ≤ 39) (hz : k < 34 := by omega) : fD D (pI D1 k j v) := a.wr' hk hk2 (Or.inl hz)
theorem DP.fr {D D' : aD} {T : aT} (hS : T 0 2 ≤ 6) (h : DP D T) (e : ∀ k j : Nat, 21 ≤ k → k ≤ 39 → ¬ (k = 30 ∧ T 0 5 ≤ (j : Int)) → ¬ (27 ≤ k ∧ k ≤ 29 ∧ T 0 4 ≤ (j : Int)) → ¬ (34 ≤ k ∧ T 0 2 ≤ (k : Int) - 34) → gI D' k j = gI D k j) : DP D' T := by
  obtain ⟨h1, h2, h3, h4, h5, h6, h7, h8, h9, h10, h11⟩ := h
  refine ⟨(e 22 0 (by omega) (by omega) (by omega) (by omega) (by omega)).trans h1, (e 22 1 (by omega) (by omega) (by omega) (by omega) (by omega)).trans h2, fun j a b => (e 21 j (by omega) (by omega) (by omega) (by omega) (by omega)).trans (h3 j a b), fun w a => (e 33 w (by omega) (by omega) (by omega) (by omega) (by omega)).trans (h4 w a), fun f s a b => (e (34 + s) f (by omega) (by omega) (by omega) (by omega) (by omega)).trans (h5 f s a b), fun r p a c => (e (27 + r) p (by omega) (by omega) (by omega) (by omega) (by omega)).trans (h6 r p a c), fun i a => (e 30 i (by omega) (by omega) (by omega) (by omega) (by omega)).trans (h7 i a), fun m a => (e 31 m (by omega) (by omega) (by omega) (by omega) (by omega)).trans (h8 m a), fun s a => ?_, fun c a => ⟨(e 23 c (by omega) (by omega) (by omega) (by omega) (by omega)).trans (h10 c a).1, (e 24 c (by omega) (by omega) (by omega) (by omega) (by omega)).trans (h10 c a).2⟩, fun c a => (e 25 c (by omega) (by omega) (by omega) (by omega) (by omega)).trans (h11 c a)⟩
  rw [e 32 s (by omega) (by omega) (by omega) (by omega) (by omega)]
  exact h9 s a
theorem DP.f5 {D D' : aD} {T : aT} (hS : T 0 2 ≤ 6) (h : DP D T) (e : f56 D D') : DP D' T := h.fr hS (fun k j _ _ _ _ _ => e k j (by omega))
theorem tk_c {T T' : aT} (h4 : T' 0 4 = T 0 4) (h9 : T' 9 = T 9) (c : Nat) : takenN T' c = takenN T c := by unfold takenN; rw [h4, h9]
theorem tS_r {T : aT} {k j k' : Nat} {x : Int} (h : k' ≠ k) : tS T k j x k' = T k' := funext fun j' => tS_ne (fun z => h z.1)
theorem DP.set0 {D : aD} {T : aT} {j : Nat} {v : Int} (h : DP D T) (hj : j = 3 ∨ (6 ≤ j ∧ j ≤ 9)) : DP (pI D 21 j (cI v)) (tS T 0 j v) := by
  obtain ⟨h1, h2, h3, h4, h5, h6, h7, h8, h9, h10, h11⟩ := h
  have r : ∀ k : Nat, k ≠ 0 → tS T 0 j v k = T k := fun k hk => tS_r hk
  unfold DP
  rw [r 11 (by omega), r 12 (by omega), tS_ne (T := T) (k := 0) (j := j) (k' := 0) (j' := 0) (by omega), tS_ne (T := T) (k := 0) (j := j) (k' := 0) (j' := 1) (by omega), tS_ne (T := T) (k := 0) (j := j) (k' := 0) (j' := 2) (by omega), tS_ne (T := T) (k := 0) (j := j) (k' := 0) (j' := 4) (by omega), tS_ne (T := T) (k := 0) (j := j) (k' := 0) (j' := 5) (by omega)]
  refine ⟨(gI_fr (by omega)).trans h1, (gI_fr (by omega)).trans h2, fun i a b => ?_, fun w a => ?_, fun f s a b => ?_, fun q p a b => ?_, fun i a => (gI_fr (by omega)).trans (h7 i a), fun m a => (gI_fr (by omega)).trans (h8 m a), fun s a => ?_, fun c a => ⟨(gI_fr (by omega)).trans (h10 c a).1, (gI_fr (by omega)).trans (h10 c a).2⟩, fun c a => ?_⟩
  · by_cases y : i = j
    · subst y; rw [gI_eq, tS_eq]
    · rw [gI_fr (by omega), tS_ne (by omega)]; exact h3 i a b
  · rw [gI_fr (by omega), tS_ne (by omega)]; exact h4 w a
  · rw [gI_fr (by omega), r _ (by omega)]; exact h5 f s a b
  · rw [gI_fr (by omega), r _ (by omega)]; exact h6 q p a b
  · rw [gI_fr (by omega)]; exact h9 s a
  · rw [gI_fr (by omega), tk_c (T := T) (tS_ne (by omega)) (r 9 (by omega))]; exact h11 c a
theorem DP.setw {D : aD} {T : aT} {j : Nat} {v : Int} (h : DP D T) : DP (pI D 33 j (cI v)) (tS T 0 (10 + j) v) := by
  obtain ⟨h1, h2, h3, h4, h5, h6, h7, h8, h9, h10, h11⟩ := h
  have r : ∀ k : Nat, k ≠ 0 → tS T 0 (10 + j) v k = T k := fun k hk => tS_r hk
  unfold DP
  rw [r 11 (by omega), r 12 (by omega), tS_ne (T := T) (k := 0) (j := 10 + j) (k' := 0) (j' := 0) (by omega), tS_ne (T := T) (k := 0) (j := 10 + j) (k' := 0) (j' := 1) (by omega), tS_ne (T := T) (k := 0) (j := 10 + j) (k' := 0) (j' := 2) (by omega), tS_ne (T := T) (k := 0) (j := 10 + j) (k' := 0) (j' := 4) (by omega), tS_ne (T := T) (k := 0) (j := 10 + j) (k' := 0) (j' := 5) (by omega)]
  refine ⟨(gI_fr (by omega)).trans h1, (gI_fr (by omega)).trans h2, fun i a b => ?_, fun w a => ?_, fun f s a b => ?_, fun q p a b => ?_, fun i a => (gI_fr (by omega)).trans (h7 i a), fun m a => (gI_fr (by omega)).trans (h8 m a), fun s a => ?_, fun c a => ⟨(gI_fr (by omega)).trans (h10 c a).1, (gI_fr (by omega)).trans (h10 c a).2⟩, fun c a => ?_⟩
  · rw [gI_fr (by omega), tS_ne (by omega)]; exact h3 i a b
  · by_cases y : w = j
    · subst y; rw [gI_eq, tS_eq]
    · rw [gI_fr (by omega), tS_ne (by omega)]; exact h4 w a
  · by_cases y : 34 + s = 33
    · omega
    · rw [gI_fr (by omega), r _ (by omega)]; exact h5 f s a b
  · rw [gI_fr (by omega), r _ (by omega)]; exact h6 q p a b
  · rw [gI_fr (by omega)]; exact h9 s a
  · rw [gI_fr (by omega), tk_c (T := T) (tS_ne (by omega)) (r 9 (by omega))]; exact h11 c a
theorem DP.gate {D : aD} {T : aT} {v : Int} (h : DP D T) (h5 : 0 ≤ T 0 5) (hv : gI D 30 (T 0 5).toNat = cI v) : DP (pI D 21 5 (cI (T 0 5 + 1))) (tS (tS T 11 (T 0 5).toNat v) 0 5 (T 0 5 + 1)) := by
  obtain ⟨h1, h2, h3, h4, h5', h6, h7, h8, h9, h10, h11⟩ := h
  have e0 : ∀ j : Nat, j ≠ 5 → tS (tS T 11 (T 0 5).toNat v) 0 5 (T 0 5 + 1) 0 j = T 0 j := fun j hj => by rw [tS_ne (by omega), tS_ne (by omega)]
  unfold DP
  rw [e0 0 (by omega), e0 1 (by omega)]
  refine ⟨?_, ?_, fun i a b => ?_, fun w a => ?_, fun f s a b => ?_, fun q p a b => ?_, fun i a => ?_, fun m a => ?_, fun s a => ?_, fun c a => ?_, fun c a => ?_⟩
  · rw [gI_fr (by omega)]; exact h1
  · rw [gI_fr (by omega)]; exact h2
  · by_cases y : i = 5
    · subst y; rw [gI_eq, tS_eq]
    · rw [gI_fr (by omega), tS_ne (by omega), tS_ne (by omega)]; exact h3 i a b
  · rw [gI_fr (by omega), tS_ne (by omega), tS_ne (by omega)]; exact h4 w a
  · rw [tS_ne (by omega), tS_ne (by omega)] at b
    rw [gI_fr (by omega), tS_ne (by omega), tS_ne (by omega)]; exact h5' f s a b
  · rw [tS_ne (by omega), tS_ne (by omega)] at b
    rw [gI_fr (by omega), tS_ne (by omega), tS_ne (by omega)]; exact h6 q p a b
  · rw [tS_eq] at a
    rw [gI_fr (by omega), tS_ne (by omega)]
    by_cases y : i = (T 0 5).toNat
    · subst y; rw [tS_eq]; exact hv
    · rw [tS_ne (by omega)]; exact h7 i (by omega)
  · rw [gI_fr (by omega), tS_ne (by omega), tS_ne (by omega)]; exact h8 m a
  · rw [gI_fr (by omega), tS_r (by omega), tS_r (by omega)]; exact h9 s a
  · rw [gI_fr (by omega), gI_fr (by omega)]; exact h10 c a
  · rw [gI_fr (by omega), tk_c (T := T) (by rw [tS_ne (by omega), tS_ne (by omega)]) (by rw [tS_r (by omega), tS_r (by omega)])]; exact h11 c a
theorem DP.mask {D : aD} {T : aT} {a b : Nat} {v : Int} (h : DP D T) (ha : a < 6) (hb : b < 6) : DP (pI (pI D 31 (a * 6 + b) (cI v)) 32 b (cI 1)) (tS T 12 (a * 6 + b) v) := by
  obtain ⟨h1, h2, h3, h4, h5, h6, h7, h8, h9, h10, h11⟩ := h
  have r : ∀ k : Nat, k ≠ 12 → tS T 12 (a * 6 + b) v k = T k := fun k hk => tS_r hk
  unfold DP
  rw [r 0 (by omega), r 11 (by omega)]
  refine ⟨?_, ?_, fun i x y => ?_, fun w x => ?_, fun f s x y => ?_, fun q p x y => ?_, fun i x => ?_, fun m x => ?_, fun s x => ?_, fun c x => ?_, fun c x => ?_⟩
  · rw [gI_fr (by omega), gI_fr (by omega)]; exact h1
  · rw [gI_fr (by omega), gI_fr (by omega)]; exact h2
  · rw [gI_fr (by omega), gI_fr (by omega)]; exact h3 i x y
  · rw [gI_fr (by omega), gI_fr (by omega)]; exact h4 w x
  · rw [gI_fr (by omega), gI_fr (by omega), r _ (by omega)]; exact h5 f s x y
  · rw [gI_fr (by omega), gI_fr (by omega), r _ (by omega)]; exact h6 q p x y
  · rw [gI_fr (by omega), gI_fr (by omega)]; exact h7 i x
  · rw [gI_fr (by omega)]
    by_cases z : m = a * 6 + b
    · subst z; rw [gI_eq, tS_eq]
    · rw [gI_fr (by omega), tS_ne (by omega)]; exact h8 m x
  · by_cases z : s = b
    · subst z; exact Or.inr gI_eq
    · rw [gI_fr (by omega), gI_fr (by omega)]
      rcases h9 s x with ⟨u1, u2⟩ | u
      · exact Or.inl ⟨u1, fun m hm => by rw [tS_ne (by omega)]; exact u2 m hm⟩
      · exact Or.inr u
  · rw [gI_fr (by omega), gI_fr (by omega), gI_fr (by omega), gI_fr (by omega)]; exact h10 c x
  · rw [gI_fr (by omega), gI_fr (by omega), tk_c (T := T) (by rw [r 0 (by omega)]) (r 9 (by omega))]; exact h11 c x
def plW (T : aT) (a c o : Int) : aT := tS (tS (tS (tS T 8 (T 0 4).toNat a) 9 (T 0 4).toNat c) 10 (T 0 4).toNat o) 0 4 (T 0 4 + 1)
theorem taken_pl {T : aT} {a c o : Int} (h : 0 ≤ T 0 4) (d : Nat) : takenN (plW T a c o) d = (takenN T d || decide (c = (d : Int))) := by
  have e1 : plW T a c o 0 4 = T 0 4 + 1 := by unfold plW; rw [tS_eq]
  have e2 : plW T a c o 9 (T 0 4).toNat = c := by unfold plW; rw [tS_ne (by omega), tS_ne (by omega), tS_eq]
  have e3 : ∀ p : Nat, p ≠ (T 0 4).toNat → plW T a c o 9 p = T 9 p := fun p hp => by unfold plW; rw [tS_ne (by omega), tS_ne (by omega), tS_ne (by omega), tS_ne (by omega)]
  unfold takenN
  rw [e1, show (T 0 4 + 1).toNat = (T 0 4).toNat + 1 by omega, List.range_succ, List.any_append]
  congr 1
  · rw [Bool.eq_iff_iff, List.any_eq_true, List.any_eq_true]
    constructor
    · rintro ⟨p, p1, p2⟩
      rw [e3 p (by have := List.mem_range.mp p1; omega)] at p2
      exact ⟨p, p1, p2⟩
    · rintro ⟨p, p1, p2⟩
      refine ⟨p, p1, ?_⟩
      rw [e3 p (by have := List.mem_range.mp p1; omega)]
      exact p2
  · simp only [List.any_cons, List.any_nil, Bool.or_false, e2]
    rw [Bool.eq_iff_iff, beq_iff_eq, decide_eq_true_iff]
theorem DP.plant {D : aD} {T : aT} {a c o : Int} (h : DP D T) (h4 : 0 ≤ T 0 4) (hc : 0 ≤ c) (v1 : gI D 27 (T 0 4).toNat = cI a) (v2 : gI D 28 (T 0 4).toNat = cI c) (v3 : gI D 29 (T 0 4).toNat = cI o) : DP (pI (pI D 25 c.toNat (cI 1)) 21 4 (cI (T 0 4 + 1))) (plW T a c o) := by
  obtain ⟨h1, h2, h3, h4', h5, h6, h7, h8, h9, h10, h11⟩ := h
  have e0 : ∀ j : Nat, j ≠ 4 → plW T a c o 0 j = T 0 j := fun j hj => by unfold plW; rw [tS_ne (by omega), tS_ne (by omega), tS_ne (by omega), tS_ne (by omega)]
  have e4 : plW T a c o 0 4 = T 0 4 + 1 := by unfold plW; rw [tS_eq]
  have er : ∀ k : Nat, k ≠ 0 → k ≠ 8 → k ≠ 9 → k ≠ 10 → plW T a c o k = T k := fun k k0 k1 k2 k3 => by unfold plW; rw [tS_r k0, tS_r k3, tS_r k2, tS_r k1]
  have es : ∀ k p : Nat, p ≠ (T 0 4).toNat → k ≠ 0 → plW T a c o k p = T k p := fun k p hp k0 => by unfold plW; rw [tS_ne (by omega), tS_ne (by omega), tS_ne (by omega), tS_ne (by omega)]
  unfold DP
  rw [e0 0 (by omega), e0 1 (by omega), e0 2 (by omega), e0 5 (by omega), e4, er 11 (by omega) (by omega) (by omega) (by omega), er 12 (by omega) (by omega) (by omega) (by omega)]
  refine ⟨?_, ?_, fun i x y => ?_, fun w x => ?_, fun f s x y => ?_, fun q p x y => ?_, fun i x => ?_, fun m x => ?_, fun s x => ?_, fun d x => ?_, fun d x => ?_⟩
  · rw [gI_fr (by omega), gI_fr (by omega)]; exact h1
  · rw [gI_fr (by omega), gI_fr (by omega)]; exact h2
  · by_cases z : i = 4
    · subst z; rw [gI_eq, e4]
    · rw [gI_fr (by omega), gI_fr (by omega), e0 i z]; exact h3 i x y
  · rw [gI_fr (by omega), gI_fr (by omega), e0 _ (by omega)]; exact h4' w x
  · rw [gI_fr (by omega), gI_fr (by omega), er _ (by omega) (by omega) (by omega) (by omega)]; exact h5 f s x y
  · rw [gI_fr (by omega), gI_fr (by omega)]
    by_cases z : p = (T 0 4).toNat
    · subst z
      rcases j3 x with rfl | rfl | rfl
      · rw [show plW T a c o (8 + 0) (T 0 4).toNat = a by unfold plW; rw [tS_ne (by omega), tS_ne (by omega), tS_ne (by omega), tS_eq]]; exact v1
      · rw [show plW T a c o (8 + 1) (T 0 4).toNat = c by unfold plW; rw [tS_ne (by omega), tS_ne (by omega), tS_eq]]; exact v2
      · rw [show plW T a c o (8 + 2) (T 0 4).toNat = o by unfold plW; rw [tS_ne (by omega), tS_eq]]; exact v3
    · rw [es _ p z (by omega)]; exact h6 q p x (by omega)
  · rw [gI_fr (by omega), gI_fr (by omega)]; exact h7 i x
  · rw [gI_fr (by omega), gI_fr (by omega)]; exact h8 m x
  · rw [gI_fr (by omega), gI_fr (by omega)]; exact h9 s x
  · rw [gI_fr (by omega), gI_fr (by omega), gI_fr (by omega), gI_fr (by omega)]; exact h10 d x
  · rw [gI_fr (by omega), taken_pl h4]
    by_cases z : d = c.toNat
    · rw [decide_eq_true (show c = (d : Int) by omega), Bool.or_true, if_pos rfl, z, gI_eq]
    · rw [gI_fr (by omega), decide_eq_false (show ¬ c = (d : Int) by omega), Bool.or_false]; exact h11 d x
def srT (T : aT) (v : Nat → Int) : aT := fun k j => if k = 0 ∧ j = 2 then T 0 2 + 1 else if 1 ≤ k ∧ k ≤ 7 ∧ j = (T 0 2).toNat then v k else T k j
theorem sr_o {T : aT} {v : Nat → Int} {k j : Nat} (h1 : ¬ (k = 0 ∧ j = 2)) (h2 : ¬ (1 ≤ k ∧ k ≤ 7 ∧ j = (T 0 2).toNat)) : srT T v k j = T k j := by unfold srT; rw [if_neg h1, if_neg h2]
theorem sr_v {T : aT} {v : Nat → Int} {k : Nat} (h1 : 1 ≤ k) (h2 : k ≤ 7) : srT T v k (T 0 2).toNat = v k := by unfold srT; rw [if_neg (by omega), if_pos ⟨h1, h2, rfl⟩]
theorem sr_r {T : aT} {v : Nat → Int} {k : Nat} (h1 : 7 < k) : srT T v k = T k := funext fun j => sr_o (by omega) (by omega)
theorem DP.sort {D : aD} {T : aT} {v : Nat → Int} (h : DP D T) (h2' : 0 ≤ T 0 2) (hv : ∀ f : Nat, f < 7 → gI D (34 + (T 0 2).toNat) f = cI (v (1 + f))) : DP (pI D 21 2 (cI (T 0 2 + 1))) (srT T v) := by
  obtain ⟨h1, h2, h3, h4, h5, h6, h7, h8, h9, h10, h11⟩ := h
  have e0 : ∀ j : Nat, j ≠ 2 → srT T v 0 j = T 0 j := fun j hj => sr_o (by omega) (by omega)
  have e2 : srT T v 0 2 = T 0 2 + 1 := by unfold srT; rw [if_pos ⟨rfl, rfl⟩]
  unfold DP
  rw [e0 0 (by omega), e0 1 (by omega), e0 4 (by omega), e0 5 (by omega), e2, sr_r (k := 11) (by omega), sr_r (k := 12) (by omega)]
  refine ⟨?_, ?_, fun i x y => ?_, fun w x => ?_, fun f s x y => ?_, fun q p x y => ?_, fun i x => ?_, fun m x => ?_, fun s x => ?_, fun d x => ?_, fun d x => ?_⟩
  · rw [gI_fr (by omega)]; exact h1
  · rw [gI_fr (by omega)]; exact h2
  · by_cases z : i = 2
    · subst z; rw [gI_eq, e2]
    · rw [gI_fr (by omega), e0 i z]; exact h3 i x y
  · rw [gI_fr (by omega), e0 _ (by omega)]; exact h4 w x
  · rw [gI_fr (by omega)]
    by_cases z : s = (T 0 2).toNat
    · subst z; rw [sr_v (by omega) (by omega)]; exact hv f x
    · rw [sr_o (by omega) (by omega)]; exact h5 f s x (by omega)
  · rw [gI_fr (by omega), sr_r (k := 8 + q) (by omega)]; exact h6 q p x y
  · rw [gI_fr (by omega)]; exact h7 i x
  · rw [gI_fr (by omega)]; exact h8 m x
  · rw [gI_fr (by omega)]; exact h9 s x
  · rw [gI_fr (by omega), gI_fr (by omega)]; exact h10 d x
  · rw [gI_fr (by omega), tk_c (T := T) (e0 4 (by omega)) (sr_r (k := 9) (by omega))]; exact h11 d x
end LIN
