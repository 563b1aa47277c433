/-! how lawP is kept when the town's state changes; the small methods -/
section STP
theorem gI_fr {D : aD} {k j k' j' : Nat} {x : Int32} (h : ¬ (k' = k ∧ j' = j)) : gI (pI D k j x) k' j' = gI D k' j' := by
  rw [gI_pI]
  by_cases a : k' = k
  · rw [if_pos a, if_neg (fun b => h ⟨a, b⟩)]
  · rw [if_neg a]
def tS (T : aT) (k j : Nat) (x : Int) : aT := fun k' j' => if k' = k ∧ j' = j then x else T k' j'
theorem tS_eq {T : aT} {k j : Nat} {x : Int} : tS T k j x k j = x := by simp [tS]
theorem tS_ne {T : aT} {k j k' j' : Nat} {x : Int} (h : ¬ (k' = k ∧ j' = j)) : tS T k j x k' j' = T k' j' := by rw [tS, if_neg h]
def lowT (T T' : aT) : Prop := ∀ k : Nat, k < 13 → T' k = T k
theorem tS_low {T : aT} {k j : Nat} {x : Int} (h : 13 ≤ k) : lowT T (tS T k j x) := fun k' hk => funext fun j' => tS_ne (by omega)
theorem TOKp.cg {T T' : aT} (h : lowT T T') (H : TOKp T) : TOKp T' := by
  unfold TOKp at H ⊢
  simp only [h 0 (by omega), h 1 (by omega), h 2 (by omega), h 3 (by omega), h 4 (by omega), h 5 (by omega), h 6 (by omega), h 7 (by omega), h 8 (by omega), h 9 (by omega), h 10 (by omega), h 11 (by omega), h 12 (by omega)]
  exact H
theorem CP.cg {D : aD} {b : Nat} {T T' : aT} (h : lowT T T') (H : CP D b T) : CP D b T' := by
  obtain ⟨h1, h2, h3, h4, h5, h6, h7, h8, h9, h10, h11⟩ := H
  unfold CP takenN
  simp only [h 0 (by omega), h 9 (by omega), h 11 (by omega), h 12 (by omega)]
  exact ⟨h1, h2, h3, h4, fun f s a b => by rw [h (1 + f) (by omega)]; exact h5 f s a b, fun r p a c => by rw [h (8 + r) (by omega)]; exact h6 r p a c, h7, h8, h9, h10, h11⟩
theorem MT.cg {D : aD} {T T' : aT} (h : lowT T T') (H : MT D T) : MT D T' := by
  obtain ⟨h1, h2, h3, h4, h5, h6⟩ := H
  unfold MT
  simp only [h 0 (by omega), h 11 (by omega), h 12 (by omega)]
  exact ⟨h1, fun f s a b => by rw [h (1 + f) (by omega)]; exact h2 f s a b, fun r p a c => by rw [h (8 + r) (by omega)]; exact h3 r p a c, h4, h5, h6⟩
theorem mixT_cg {T T' K : aT} (h : lowT T T') : mixT T' K = mixT T K := by
  funext k j
  unfold mixT
  by_cases c : k < 13
  · rw [if_pos c, if_pos c, h k c]
  · rw [if_neg c, if_neg c]
def nowC (k j : Nat) : Prop := (40 ≤ k ∧ k ≤ 47) ∨ k = 104 ∨ k = 106 ∨ k = 107 ∨ (118 ≤ k ∧ k ≤ 121) ∨ (k = 88 ∧ 31 ≤ j ∧ j ≤ 33)
theorem aKept.fr {D D' : aD} {T K : aT} (h5 : aKept D T K) (e : ∀ k j : Nat, (48 ≤ k ∧ k ≤ 55) ∨ (125 ≤ k ∧ k ≤ 131) ∨ (k = 0 ∧ j = 7) ∨ (k = 88 ∧ 55 ≤ j ∧ j ≤ 58) → gI D' k j = gI D k j) : aKept D' T K := by
  rcases h5 with ⟨a, b⟩ | ⟨a, b, c, d, f⟩
  · exact Or.inl ⟨(e 0 7 (by omega)).trans a, (e 88 55 (by omega)).trans b⟩
  · exact Or.inr ⟨(e 0 7 (by omega)).trans a, (e 88 55 (by omega)).trans b, c, aNow.fr d (fun j => e _ j (by omega)) (fun j => e _ j (by omega)) (fun r j hr => e _ j (by omega)) (fun j => e _ j (by omega)) (fun j hj => e _ _ (by omega)), aNow.fr f (fun j => e _ j (by omega)) (fun j => e _ j (by omega)) (fun r j hr => e _ j (by omega)) (fun j => e _ j (by omega)) (fun j hj => e _ _ (by omega))⟩
theorem aTape.fr {D D' : aD} {L : Int} {B : Nat → Int} (h6 : aTape D L B) (e : ∀ k j : Nat, (k = 0 ∧ j = 1) ∨ k = 1 ∨ k = 105 ∨ (k = 88 ∧ j = 18) → gI D' k j = gI D k j) : aTape D' L B := by
  obtain ⟨a, b, c, d, f⟩ := h6
  exact ⟨(e 0 1 (by omega)).trans a, (e 88 18 (by omega)).trans b, c, d, fun j hj => ⟨(f j hj).1, (f j hj).2.1, (e 1 j (by omega)).trans (f j hj).2.2.1, (e 105 j (by omega)).trans (f j hj).2.2.2⟩⟩
theorem aTops.fr {D D' : aD} (h8 : aTops D) (e : ∀ k j : Nat, k = 90 ∨ (34 ≤ k ∧ k ≤ 39) → gI D' k j = gI D k j) : aTops D' := by
  obtain ⟨a, b, c, d, w⟩ := h8
  exact ⟨(e _ _ (by omega)).trans a, (e _ _ (by omega)).trans b, (e _ _ (by omega)).trans c, (e _ _ (by omega)).trans d, fun s hs => by rw [e (34 + s) 6 (by omega)]; exact w s hs⟩
/-- the state has changed, all else stands -/
theorem rel.nw {D D' : aD} {T T' K : aT} {L : Int} {B : Nat → Int} (H : rel T K L B D) (hT : lowT T T') (hn : TOKn T') (h2 : CNow D' T') (h4 : MNow D' T')
    (e : ∀ k j : Nat, ¬ (57 ≤ k ∧ k < 88) → ¬ mScr k j → ¬ nowC k j → gI D' k j = gI D k j) : rel T' K L B D' := by
  obtain ⟨hp, -, h1, -, h3, -, h5, h6, h7, h8⟩ := H
  have e' : ∀ k j : Nat, ¬ ((57 ≤ k ∧ k < 88) ∨ mScr k j ∨ nowC k j) → gI D' k j = gI D k j := fun k j h => e k j (fun z => h (Or.inl z)) (fun z => h (Or.inr (Or.inl z))) (fun z => h (Or.inr (Or.inr z)))
  refine ⟨hp.cg hT, hn, (h1.fr hp (fun k j hk => e' _ j (by unfold mScr nowC; omega))).cg hT, h2, (h3.fr (fun k j a b => e' k j (by unfold mScr nowC; omega)) (e' 88 30 (by unfold mScr nowC; omega))).cg hT, h4, ?_, h6.fr (fun k j a => e' k j (by unfold mScr nowC; omega)), ?_, h8.fr (fun k j a => e' k j (by unfold mScr nowC; omega))⟩
  · have h9 := h5.fr (D' := D') (fun k j a => e' k j (by unfold mScr nowC; omega))
    unfold aKept at h9 ⊢
    rw [mixT_cg hT]
    exact h9
  · rw [e' 0 2 (by unfold mScr nowC; omega), e' 88 27 (by unfold mScr nowC; omega)]
    exact h7
theorem fr_code {D : aD} {x : Int32} : ∀ k j : Nat, ¬ mScr k j → gI (pI D 88 2 x) k j = gI D k j := fun k j h => gI_fr (by unfold mScr at h; omega)
theorem eq_step {fc : Option (Int32 × aD)} {fm : aD → Option (Int32 × aD)} {C P : aD → Prop} (y : Int32) (hc : Ok fc (fun r => r.1 = y ∧ C r.2)) (hm : ∀ D : aD, C D → Ok (fm D) (fun r => r.1 = y ∧ P r.2)) :
    Ok2 (aBi fc (fun x0 D => aBi (fm D) (fun x1 D => if x0 = x1 then some ((1 : Int32), D) else some ((0 : Int32), D)))) (fun r D => r = 1 ∧ P D) := by
  rw [ok_2, ok_bi]
  obtain ⟨⟨q, D1⟩, rfl, h1, h2⟩ := hc
  refine ⟨_, rfl, ok_biI ?_⟩
  obtain ⟨⟨y2, D2⟩, e2, h3, h4⟩ := hm D1 h2
  refine ⟨_, e2, ?_⟩
  have e : q = y2 := (h1 : q = y).trans (h3 : y2 = y).symm
  show Ok (if q = y2 then some ((1 : Int32), D2) else some ((0 : Int32), D2)) _
  rw [if_pos e, ok_some]
  exact ⟨rfl, h4⟩
def bI (p : Prop) [Decidable p] : Int := if p then 1 else 0
theorem bI_p {p : Prop} {inst : Decidable p} (h : p) : @bI p inst = 1 := ifp h
theorem bI_n {p : Prop} {inst : Decidable p} (h : ¬ p) : @bI p inst = 0 := ifn h
theorem aZ_b {p : Prop} {inst : Decidable p} : aZ (cI (@bI p inst)) = true := by
  by_cases h : p
  · rw [bI_p h]; decide
  · rw [bI_n h]; decide
theorem aZ_0 : aZ (cI 0) = true := by decide
theorem aZ_1 : aZ (cI 1) = true := by decide
theorem isBelow_eq {a b : Int} {D : aD} (h1 : -2147483648 ≤ a) (h2 : a < 2147483648) (h3 : -2147483648 ≤ b) (h4 : b < 2147483648) : f_X11_isBelow (cI a) (cI b) D = some (cI (bI (0 ≤ a ∧ a < b)), D) := by
  unfold f_X11_isBelow bI
  simp (disch := omega) only [cL0, cL1, cI_lt, cI_le]
  by_cases c1 : a < 0
  · rw [if_pos c1, if_neg (by omega)]
  · rw [if_neg c1]
    by_cases c2 : b ≤ a
    · rw [if_pos c2, if_neg (by omega)]
    · rw [if_neg c2, if_pos (by omega)]
theorem isIn_eq {v a b : Int} {D : aD} (h1 : -2147483648 ≤ a) (h2 : a < 2147483648) (h3 : -2147483648 ≤ b) (h4 : b < 2147483648) (h5 : -2147483648 ≤ v) (h6 : v < 2147483648) : f_X12_isIn (cI v) (cI a) (cI b) D = some (cI (bI (a ≤ v ∧ v ≤ b)), D) := by
  unfold f_X12_isIn bI
  simp (disch := omega) only [cL0, cL1, cI_lt, cI_le]
  by_cases c1 : v < a
  · rw [if_pos c1, if_neg (by omega)]
  · rw [if_neg c1]
    by_cases c2 : b < v
    · rw [if_pos c2, if_neg (by omega)]
    · rw [if_neg c2, if_pos (by omega)]
theorem step_2 {D : aD} {v1 v2 v3 v4 v5 : Int32} (h : lawP D) : Ok2 (f_law_2 v1 v2 v3 v4 v5 D) (fun r D => r = 1 ∧ lawP D) := by
  obtain ⟨T, K, L, B, H⟩ := h
  unfold f_law_2
  refine eq_step (fc := f_X11_fault D) (fm := f_X12_fault) (P := lawP) (C := fun D' => D' = D) (gI D 0 2) (by unfold f_X11_fault; exact ok_someI ⟨rfl, rfl⟩) ?_
  rintro D rfl
  unfold f_X12_fault
  rw [ok_let, ok_some]
  show gI (pI D 88 2 0) 88 27 = gI D 0 2 ∧ lawP (pI D 88 2 0)
  exact ⟨(gI_nj (by omega)).trans H.2.2.2.2.2.2.2.2.1.symm, T, K, L, B, H.fr (fun k j _ b => fr_code k j b)⟩
def dsN (h o n st fk : Nat) : Prop := h ≠ o ∧ h ≠ st ∧ h ≠ fk ∧ o ≠ st ∧ o ≠ fk ∧ st ≠ fk ∧ (h < n ∨ n + 3 < h) ∧ (o < n ∨ n + 3 < o) ∧ (st < n ∨ n + 3 < st) ∧ (fk < n ∨ n + 3 < fk)
theorem aNow.setF {D : aD} {h o n st fk f j : Nat} {T : aT} {x : Int} (H : aNow D h o n st fk f T) (hd : dsN h o n st fk) : aNow (pI D fk (f + j) (cI x)) h o n st fk f (tS T 15 j x) := by
  unfold dsN at hd
  obtain ⟨a, b, c, d, e⟩ := H
  refine ⟨fun p hp => ?_, fun i hi => ?_, fun r i hr hi => ?_, fun i hi => ?_, fun i hi => ?_⟩
  · rw [gI_fr (by omega), tS_ne (by omega)]; exact a p (by rw [tS_ne (by omega)] at hp; exact hp)
  · rw [gI_fr (by omega), tS_ne (by omega)]; exact b i hi
  · rw [gI_fr (by omega), tS_ne (by omega)]; exact c r i hr hi
  · rw [gI_fr (by omega), tS_ne (by omega)]; exact d i hi
  · by_cases e1 : i = j
    · subst e1; rw [gI_eq, tS_eq]
    · rw [gI_fr (by omega), tS_ne (by omega)]; exact e i hi
theorem aNow.setH {D : aD} {h o n st fk f j : Nat} {T : aT} {x : Int} (H : aNow D h o n st fk f T) (hd : dsN h o n st fk) : aNow (pI D h j (cI x)) h o n st fk f (tS T 13 j x) := by
  unfold dsN at hd
  obtain ⟨a, b, c, d, e⟩ := H
  refine ⟨fun p hp => ?_, fun i hi => ?_, fun r i hr hi => ?_, fun i hi => ?_, fun i hi => ?_⟩
  · by_cases e1 : p = j
    · subst e1; rw [gI_eq, tS_eq]
    · rw [gI_fr (by omega), tS_ne (by omega)]; exact a p (by rw [tS_ne (by omega)] at hp; exact hp)
  · rw [gI_fr (by omega), tS_ne (by omega)]; exact b i hi
  · rw [gI_fr (by omega), tS_ne (by omega)]; exact c r i hr hi
  · rw [gI_fr (by omega), tS_ne (by omega)]; exact d i hi
  · rw [gI_fr (by omega), tS_ne (by omega)]; exact e i hi
theorem aNow.setO {D : aD} {h o n st fk f j : Nat} {T : aT} {x : Int} (H : aNow D h o n st fk f T) (hd : dsN h o n st fk) : aNow (pI D o j (cI x)) h o n st fk f (tS T 14 j x) := by
  unfold dsN at hd
  obtain ⟨a, b, c, d, e⟩ := H
  refine ⟨fun p hp => ?_, fun i hi => ?_, fun r i hr hi => ?_, fun i hi => ?_, fun i hi => ?_⟩
  · rw [gI_fr (by omega), tS_ne (by omega)]; exact a p (by rw [tS_ne (by omega)] at hp; exact hp)
  · by_cases e1 : i = j
    · subst e1; rw [gI_eq, tS_eq]
    · rw [gI_fr (by omega), tS_ne (by omega)]; exact b i hi
  · rw [gI_fr (by omega), tS_ne (by omega)]; exact c r i hr hi
  · rw [gI_fr (by omega), tS_ne (by omega)]; exact d i hi
  · rw [gI_fr (by omega), tS_ne (by omega)]; exact e i hi
theorem aNow.setN {D : aD} {h o n st fk f q j : Nat} {T : aT} {x : Int} (H : aNow D h o n st fk f T) (hd : dsN h o n st fk) (hq : q < 4) : aNow (pI D (n + q) j (cI x)) h o n st fk f (tS T (16 + q) j x) := by
  unfold dsN at hd
  obtain ⟨a, b, c, d, e⟩ := H
  refine ⟨fun p hp => ?_, fun i hi => ?_, fun r i hr hi => ?_, fun i hi => ?_, fun i hi => ?_⟩
  · rw [gI_fr (by omega), tS_ne (by omega)]; exact a p (by rw [tS_ne (by omega)] at hp; exact hp)
  · rw [gI_fr (by omega), tS_ne (by omega)]; exact b i hi
  · by_cases e1 : r = q ∧ i = j
    · obtain ⟨rfl, rfl⟩ := e1; rw [gI_eq, tS_eq]
    · rw [gI_fr (by omega), tS_ne (by omega)]; exact c r i hr hi
  · rw [gI_fr (by omega), tS_ne (by omega)]; exact d i hi
  · rw [gI_fr (by omega), tS_ne (by omega)]; exact e i hi
theorem aNow.setS {D : aD} {h o n st fk f j : Nat} {T : aT} {x : Int} (H : aNow D h o n st fk f T) (hd : dsN h o n st fk) : aNow (pI D st j (cI x)) h o n st fk f (tS T 20 j x) := by
  unfold dsN at hd
  obtain ⟨a, b, c, d, e⟩ := H
  refine ⟨fun p hp => ?_, fun i hi => ?_, fun r i hr hi => ?_, fun i hi => ?_, fun i hi => ?_⟩
  · rw [gI_fr (by omega), tS_ne (by omega)]; exact a p (by rw [tS_ne (by omega)] at hp; exact hp)
  · rw [gI_fr (by omega), tS_ne (by omega)]; exact b i hi
  · rw [gI_fr (by omega), tS_ne (by omega)]; exact c r i hr hi
  · by_cases e1 : i = j
    · subst e1; rw [gI_eq, tS_eq]
    · rw [gI_fr (by omega), tS_ne (by omega)]; exact d i hi
  · rw [gI_fr (by omega), tS_ne (by omega)]; exact e i hi
theorem dsC : dsN 41 42 43 47 40 := by unfold dsN; omega
theorem dsM : dsN 106 107 118 104 88 := by unfold dsN; omega
/-- one value of the state is set on both sides -/
theorem aNow.one {D : aD} {h o n st fk f : Nat} {T : aT} {k j : Nat} {x : Int32} (H : aNow D h o n st fk f T) (hk : k ≠ h ∧ k ≠ o ∧ (k < n ∨ n + 3 < k) ∧ k ≠ st ∧ ¬ (k = fk ∧ f ≤ j ∧ j < f + 3)) : aNow (pI D k j x) h o n st fk f T :=
  H.fr (fun j => gI_fr (by omega)) (fun j => gI_fr (by omega)) (fun r j hr => gI_fr (by omega)) (fun j => gI_fr (by omega)) (fun j hj => gI_fr (by omega))
theorem step_6 {D : aD} {v1 v2 v3 v4 v5 : Int32} (h : lawP D) : Ok2 (f_law_6 v1 v2 v3 v4 v5 D) (fun r D => r = 1 ∧ lawP D) := by
  obtain ⟨T, K, L, B, H⟩ := h
  have ⟨hp, hn, h1, h2, h3, h4, h5, h6, h7, h8⟩ := H
  obtain ⟨a, rfl, ha1, ha2⟩ := cI_of v1
  unfold f_law_6
  by_cases c : 0 ≤ a ∧ a < 52
  · have e1 : f_X11_week (cI a) D = some (cI 1, pI D 40 3 (cI a)) := by
      unfold f_X11_week
      simp (disch := omega) only [e_bi, e_bind, e_let, e_tr, e_tl, cLm1, cLm2, cL0, cL1, cL2, cL3, cL4, cL5, cL6, cL7, cL8, cL9, cL10, cL11, cL12, cL13, cL14, cL15, cL16, cL17, cL18, cL19, cL20, cL21, cL22, cL23, cL24, cL25, cL29, cL30, cL31, cL32, cL36, cL48, cL50, cL51, cL52, cL64, cL99, cL100, cL700, cL1000, cL9999, cL10000, cI_add, cI_sub, cI_mul, cI_neg, cI_lt, cI_le, cI_eq, ne_eq, ifp, ifn, bI_p, bI_n, aZ_0, aZ_1, aZ_b, e_gdt, e_ifT, e_ifF, not_true_eq_false, not_false_eq_true, e_gd, isBelow_eq]
    have e2 : ∀ D, f_X12_week (cI a) D = some (cI 1, pI (pI D 88 2 (cI 0)) 88 32 (cI a)) := fun D => by
      unfold f_X12_week
      simp (disch := omega) only [e_bi, e_bind, e_let, e_tr, e_tl, cLm1, cLm2, cL0, cL1, cL2, cL3, cL4, cL5, cL6, cL7, cL8, cL9, cL10, cL11, cL12, cL13, cL14, cL15, cL16, cL17, cL18, cL19, cL20, cL21, cL22, cL23, cL24, cL25, cL29, cL30, cL31, cL32, cL36, cL48, cL50, cL51, cL52, cL64, cL99, cL100, cL700, cL1000, cL9999, cL10000, cI_add, cI_sub, cI_mul, cI_neg, cI_lt, cI_le, cI_eq, ne_eq, ifp, ifn, bI_p, bI_n, aZ_0, aZ_1, aZ_b, e_gdt, e_ifT, e_ifF, not_true_eq_false, not_false_eq_true, e_gd, isIn_eq]
    refine eq_step (fc := f_X11_week (cI a) D) (fm := fun D => f_X12_week (cI a) D) (P := lawP) (C := fun D' => D' = pI D 40 3 (cI a)) (cI 1) (by rw [e1]; exact ok_someI ⟨rfl, rfl⟩) ?_
    rintro D' rfl
    rw [e2]
    refine ok_someI ⟨rfl, ?_⟩
    refine ⟨tS T 15 1 a, K, L, B, H.nw (tS_low (by omega)) ?_ ?_ ?_ ?_⟩
    · obtain ⟨q1, q2, q3, q4⟩ := hn
      unfold TOKn
      simp (disch := omega) only [tS_ne, tS_eq]
      exact ⟨by omega, q2, q3, q4⟩
    · exact ((aNow.setF (j := 1) h2 dsC).one (by omega)).one (by omega)
    · exact aNow.setF (j := 1) (f := 31) ((aNow.one h4 (by omega)).one (by omega)) dsM
    · intro k j x1 x2 x3
      unfold mScr at x2
      unfold nowC at x3
      simp (disch := omega) only [gI_fr]
  · have e1 : f_X11_week (cI a) D = some (cI 0, D) := by
      unfold f_X11_week
      simp (disch := omega) only [e_bi, e_bind, e_let, e_tr, e_tl, cLm1, cLm2, cL0, cL1, cL2, cL3, cL4, cL5, cL6, cL7, cL8, cL9, cL10, cL11, cL12, cL13, cL14, cL15, cL16, cL17, cL18, cL19, cL20, cL21, cL22, cL23, cL24, cL25, cL29, cL30, cL31, cL32, cL36, cL48, cL50, cL51, cL52, cL64, cL99, cL100, cL700, cL1000, cL9999, cL10000, cI_add, cI_sub, cI_mul, cI_neg, cI_lt, cI_le, cI_eq, ne_eq, ifp, ifn, bI_p, bI_n, aZ_0, aZ_1, aZ_b, e_gdt, e_ifT, e_ifF, not_true_eq_false, not_false_eq_true, e_gd, isBelow_eq]
    have e2 : ∀ D, f_X12_week (cI a) D = some (cI 0, pI D 88 2 (cI 0)) := fun D => by
      unfold f_X12_week
      simp (disch := omega) only [e_bi, e_bind, e_let, e_tr, e_tl, cLm1, cLm2, cL0, cL1, cL2, cL3, cL4, cL5, cL6, cL7, cL8, cL9, cL10, cL11, cL12, cL13, cL14, cL15, cL16, cL17, cL18, cL19, cL20, cL21, cL22, cL23, cL24, cL25, cL29, cL30, cL31, cL32, cL36, cL48, cL50, cL51, cL52, cL64, cL99, cL100, cL700, cL1000, cL9999, cL10000, cI_add, cI_sub, cI_mul, cI_neg, cI_lt, cI_le, cI_eq, ne_eq, ifp, ifn, bI_p, bI_n, aZ_0, aZ_1, aZ_b, e_gdt, e_ifT, e_ifF, not_true_eq_false, not_false_eq_true, e_gd, isIn_eq]
    refine eq_step (fc := f_X11_week (cI a) D) (fm := fun D => f_X12_week (cI a) D) (P := lawP) (C := fun D' => D' = D) (cI 0) (by rw [e1]; exact ok_someI ⟨rfl, rfl⟩) ?_
    rintro D' rfl
    rw [e2]
    exact ok_someI ⟨rfl, T, K, L, B, H.fr (fun k j _ b => fr_code k j b)⟩
end STP
