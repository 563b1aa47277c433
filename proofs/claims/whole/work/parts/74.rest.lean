/-! rest: the reference's answer; the step (17) -/
section RE3
theorem cspent_ok {D : aD} {T : aT} (hp : TOKp T) (hC : CP D 2 T) : Ok (aLp (fun s : Int32 × aD => B_X11_rest_2 s.1 s.2) (cI 0, D)) (fun q => (q = .inr D ∧ ∀ g : Nat, (g : Int) < T 0 3 → (mnA T g).length ≤ 6) ∨ (q = .inl D ∧ ¬ ∀ g : Nat, (g : Int) < T 0 3 → (mnA T g).length ≤ 6)) := by
  have hq := hp.1
  have p3 := (CP.two hC).2.2.1 3 (by omega) (by omega)
  refine ok_lp (fun i t => t = (cI (i : Int), D) ∧ ∀ g : Nat, g < i → (mnA T g).length ≤ 6) (T 0 3).toNat (by omega) ⟨rfl, fun g h => absurd h (by omega)⟩ ?_
  rintro i t hi ⟨rfl, g1⟩
  show Ok (B_X11_rest_2 (cI (i : Int)) D) _
  unfold B_X11_rest_2
  by_cases c : (i : Int) < T 0 3
  · have po := plantsOf_eq (g := i) hp hC c
    have len := mn_len (T := T) (g := i) (T 0 4).toNat
    have len' : (mnA T i).length ≤ (T 0 4).toNat := len
    rw [p3, if_neg (show ¬ (cI (T 0 3) ≤ cI (i : Int)) by rw [cI_le (by omega) (by omega) (by omega) (by omega)]; omega), po, e_bi]
    by_cases z : (mnA T i).length ≤ 6
    · rw [if_pos (show cI ((mnA T i).length : Int) ≤ 6 by rw [cL6, cI_le (by omega) (by omega) (by omega) (by omega)]; omega), e_let]
      refine ok_someI (Or.inl ⟨_, rfl, by omega, by rw [cL1, cI_add]; rfl, fun g hg => ?_⟩)
      by_cases y : g = i
      · subst y; exact z
      · exact g1 g (by omega)
    · rw [if_neg (show ¬ (cI ((mnA T i).length : Int) ≤ 6) by rw [cL6, cI_le (by omega) (by omega) (by omega) (by omega)]; omega)]
      exact ok_someI (Or.inr ⟨_, rfl, Or.inr ⟨rfl, fun h => z (h i c)⟩⟩)
  · rw [p3, if_pos (show cI (T 0 3) ≤ cI (i : Int) by rw [cI_le (by omega) (by omega) (by omega) (by omega)]; omega)]
    exact ok_someI (Or.inr ⟨_, rfl, Or.inl ⟨rfl, fun g hg => g1 g (by omega)⟩⟩)
theorem mspent_ok {D : aD} {T : aT} (hT : TOKs T) (hP : T 0 4 ≤ 12) (hM : MS D T) : Ok (aLp (fun s : Int32 × aD => B_X12_rest_7 s.1 s.2) (cI 0, D)) (fun q => ∃ D' : aD, (∀ k j : Nat, k ≠ 113 → ¬ (k = 88 ∧ j = 41) → gI D' k j = gI D k j) ∧ D'.2 = D.2 ∧ ((q = .inr D' ∧ ∀ g : Nat, (g : Int) < T 0 3 → (mnA T g).length ≤ 6) ∨ (q = .inl D' ∧ ¬ ∀ g : Nat, (g : Int) < T 0 3 → (mnA T g).length ≤ 6))) := by
  have hq := hT.1
  refine ok_lp (fun i t => t.1 = cI (i : Int) ∧ (∀ k j : Nat, k ≠ 113 → ¬ (k = 88 ∧ j = 41) → gI t.2 k j = gI D k j) ∧ t.2.2 = D.2 ∧ ∀ g : Nat, g < i → (mnA T g).length ≤ 6) (T 0 3).toNat (by omega) ⟨rfl, fun _ _ _ _ => rfl, rfl, fun g h => absurd h (by omega)⟩ ?_
  rintro i ⟨x, D1⟩ hi ⟨rfl, g1, g2, g3⟩
  show Ok (B_X12_rest_7 (cI (i : Int)) D1) _
  have g1' : ∀ k j : Nat, k ≠ 113 → ¬ (k = 88 ∧ j = 41) → gI D1 k j = gI D k j := g1
  have g2' : D1.2 = D.2 := g2
  have hM1 : MS D1 T := hM.fr (fun k j a => g1' k j (by omega) (by omega)) (fun j a b => g1' _ j (by omega) (by omega))
  have m3 : gI D1 91 3 = cI (T 0 3) := hM1.1 3 (by omega) (by omega)
  unfold B_X12_rest_7
  rw [e_gd (by decide), show gI D1 91 (3 : Int32).toNatClampNeg = cI (T 0 3) from m3]
  by_cases c : (i : Int) < T 0 3
  · have len := mn_len (T := T) (g := i) (T 0 4).toNat
    have len' : (mnA T i).length ≤ (T 0 4).toNat := len
    rw [if_neg (show ¬ (cI (T 0 3) ≤ cI (i : Int)) by rw [cI_le (by omega) (by omega) (by omega) (by omega)]; omega)]
    refine ok_bindI ((tellMine_ok (g := i) hT hP hM1 c).mono fun D2 q => ?_)
    obtain ⟨q1, q2, q3⟩ := q
    have fr : ∀ k j : Nat, k ≠ 113 → ¬ (k = 88 ∧ j = 41) → gI D2 k j = gI D k j := fun k j a b => (q2 k j a b).trans (g1' k j a b)
    rw [q1.1]
    by_cases z : (mnA T i).length ≤ 6
    · rw [if_pos (show cI ((mnA T i).length : Int) ≤ 6 by rw [cL6, cI_le (by omega) (by omega) (by omega) (by omega)]; omega), e_let]
      refine ok_someI (Or.inl ⟨_, rfl, by omega, by rw [cL1, cI_add]; rfl, fr, q3.trans g2', fun g hg => ?_⟩)
      by_cases y : g = i
      · subst y; exact z
      · exact g3 g (by omega)
    · rw [if_neg (show ¬ (cI ((mnA T i).length : Int) ≤ 6) by rw [cL6, cI_le (by omega) (by omega) (by omega) (by omega)]; omega)]
      exact ok_someI (Or.inr ⟨_, rfl, D2, fr, q3.trans g2', Or.inr ⟨rfl, fun h => z (h i c)⟩⟩)
  · rw [if_pos (show cI (T 0 3) ≤ cI (i : Int) by rw [cI_le (by omega) (by omega) (by omega) (by omega)]; omega)]
    exact ok_someI (Or.inr ⟨_, rfl, D1, g1, g2, Or.inl ⟨rfl, fun g hg => g3 g (by omega)⟩⟩)
theorem mrounds_ok {D : aD} {T : aT} (hp : TOKp T) (hn : TOKn T) (hM : MS D T) (hl : ∀ g : Nat, (g : Int) < T 0 3 → (mnA T g).length ≤ 6) :
    Ok (aLp (fun s : Int32 × aD => B_X12_rest_53 s.1 s.2) (cI 0, D)) (fun q => ∃ r : Nat, q.1 = cI (r : Int) ∧ frR T D q.2 ∧ ((r = 21 ∧ rsF T 0 21 = -1) ∨ (r < 21 ∧ rsF T 0 21 = (r : Int)))) := by
  have sb := seq_b hp hn
  refine ok_lp (fun r t => t.1 = cI (r : Int) ∧ MS t.2 (hwT T (seqN T r)) ∧ (∀ j : Nat, j < r → tnN T j = true) ∧ frR T D t.2) 21 (by omega) ⟨rfl, MS_13 hM, fun j h => absurd h (by omega), fun _ _ _ _ _ => rfl, rfl⟩ ?_
  rintro r ⟨x, D1⟩ hr ⟨rfl, g1, g2, g3⟩
  show Ok (B_X12_rest_53 (cI (r : Int)) D1) _
  have g1' : MS D1 (hwT T (seqN T r)) := g1
  have g3' : frR T D D1 := g3
  have st := rs_sk (T := T) r (by omega) g2
  unfold B_X12_rest_53
  by_cases c : r < 21
  · rw [if_neg (show ¬ ((21 : Int32) ≤ cI (r : Int)) by rw [cL21, cI_le (by omega) (by omega) (by omega) (by omega)]; omega)]
    refine ok_biI ((mround_ok hp hn g1' hl (sb r).1 (sb r).2).mono fun q k => ?_)
    obtain ⟨y, D2⟩ := q
    obtain ⟨k1, k2, k3⟩ := k
    have k1' : y = cI (if tnN T r then 1 else 0) := k1
    subst k1'
    have k2' : MS D2 (hwT T (seqN T (r + 1))) := k2
    have k3' : frR T D1 D2 := k3
    have f2 : frR T D D2 := ⟨fun k j a b d => (k3'.1 k j a b d).trans (g3'.1 k j a b d), k3'.2.trans g3'.2⟩
    have st2 : rsF T r (21 - r) = if tnN T r then rsF T (r + 1) (20 - r) else (r : Int) := by
      rw [show 21 - r = (20 - r) + 1 by omega, rsF]
    dsimp only
    by_cases t : tnN T r = true
    · rw [t, if_pos rfl, if_neg (show ¬ (cI 1 = 0) by decide), e_let]
      refine ok_someI (Or.inl ⟨_, rfl, c, cI_add r 1, k2', fun j hj => ?_, f2⟩)
      by_cases y : j = r
      · subst y; exact t
      · exact g2 j (by omega)
    · have tf : tnN T r = false := by simpa using t
      rw [tf, if_neg Bool.false_ne_true] at st2
      rw [tf, if_neg Bool.false_ne_true, if_pos (show cI 0 = 0 from rfl)]
      exact ok_someI (Or.inr ⟨_, rfl, r, rfl, f2, Or.inr ⟨c, st.trans st2⟩⟩)
  · obtain rfl : r = 21 := by omega
    rw [if_pos (show ((21 : Int32) ≤ cI ((21 : Nat) : Int)) by decide)]
    exact ok_someI (Or.inr ⟨_, rfl, 21, rfl, g3, Or.inl ⟨rfl, st⟩⟩)
theorem mrest_ok {D : aD} {T : aT} (hp : TOKp T) (hn : TOKn T) (hM : MS D T) :
    Ok (f_X12_rest D) (fun r => (∀ k j : Nat, ¬ mScr k j → gI r.2 k j = gI D k j) ∧ (((∀ g : Nat, (g : Int) < T 0 3 → (mnA T g).length ≤ 6) ∧ r.1 = cI (rsF T 0 21)) ∨ ((¬ ∀ g : Nat, (g : Int) < T 0 3 → (mnA T g).length ≤ 6) ∧ r.1 = cI (-2)))) := by
  have hq := hp.1
  have hT := TOKs.of hp hn
  unfold f_X12_rest J_X12_rest_7
  rw [e_let]
  have hM0 : MS (pI D 88 2 0) T := hM.fr (fun k j a => gI_fr (by omega)) (fun j a b => gI_fr (by omega))
  refine ok_bindI ((mspent_ok hT (by omega) hM0).mono fun q1 hq1 => ?_)
  obtain ⟨D1, f1, e1, ⟨rfl, hl⟩ | ⟨rfl, hl⟩⟩ := hq1
  · have f1' : ∀ k j : Nat, k ≠ 113 → ¬ (k = 88 ∧ j = 41) → ¬ (k = 88 ∧ j = 2) → gI D1 k j = gI D k j := fun k j a b c => (f1 k j a b).trans (gI_fr (by omega))
    rw [Sum.elim_inr]
    unfold J_X12_rest_40
    refine ok_bindI ((be_ok (a0 := 115) (n0 := 13) (a1 := 106) (n1 := 13) (D := D1) (by omega) (by omega) (by omega)).mono fun D2 q2 => ?_)
    obtain ⟨q2a, q2b, q2c⟩ := q2
    unfold J_X12_rest_53
    have hM2 : MS D2 T := hM.fr (fun k j a => (q2b k j (by omega)).trans (f1' k j (by omega) (by omega) (by omega))) (fun j a b => (q2b _ j (by omega)).trans (f1' _ j (by omega) (by omega) (by omega)))
    refine ok_bindI ((mrounds_ok hp hn hM2 hl).mono fun q3 hq3 => ?_)
    obtain ⟨y, D3⟩ := q3
    obtain ⟨r, y1, f3, hr⟩ := hq3
    obtain rfl : y = cI (r : Int) := y1
    have f3' : frR T D2 D3 := f3
    unfold J_X12_rest_72
    refine ok_bindI ((be_ok (a0 := 106) (n0 := 13) (a1 := 115) (n1 := 13) (D := D3) (by omega) (by omega) (by omega)).mono fun D4 q4 => ?_)
    obtain ⟨q4a, q4b, q4c⟩ := q4
    have fr : ∀ k j : Nat, ¬ mScr k j → gI D4 k j = gI D k j := fun k j a => by
      unfold mScr at a
      by_cases z : k = 106 ∧ j < 13
      · obtain ⟨rfl, z⟩ := z
        rw [q4a j z, f3'.1 115 j (by omega) (by omega) (by omega), q2a j z]
        exact f1' _ _ (by omega) (by omega) (by omega)
      · rw [q4b k j z, f3'.1 k j (by omega) (by omega) (by omega), q2b k j (by omega)]
        exact f1' _ _ (by omega) (by omega) (by omega)
    dsimp only
    rcases hr with ⟨rfl, hr⟩ | ⟨c, hr⟩
    · rw [if_neg (show ¬ (cI ((21 : Nat) : Int) ≠ 21) from fun z => z rfl)]
      exact ok_someI ⟨fr, Or.inl ⟨hl, by rw [hr]; rfl⟩⟩
    · rw [if_pos (show cI (r : Int) ≠ 21 by rw [cL21, cI_ne (by omega) (by omega) (by omega) (by omega)]; omega)]
      exact ok_someI ⟨fr, Or.inl ⟨hl, by rw [hr]⟩⟩
  · rw [Sum.elim_inl]
    unfold J_X12_rest_31
    exact ok_someI ⟨fun k j a => by unfold mScr at a; exact (f1 k j (by omega) (by omega)).trans (gI_fr (by omega)), Or.inr ⟨hl, rfl⟩⟩
theorem step_17 {D : aD} {v1 v2 v3 v4 v5 : Int32} (h : lawP D) : Ok2 (f_law_17 v1 v2 v3 v4 v5 D) (fun r D => r = 1 ∧ lawP D) := by
  obtain ⟨T, K, L, B, H⟩ := h
  have ⟨hp, hn, hC, hN, hM, hR, _⟩ := H
  unfold f_law_17
  by_cases hl : ∀ g : Nat, (g : Int) < T 0 3 → (mnA T g).length ≤ 6
  · refine eq_step (fc := f_X11_rest D) (fm := f_X12_rest) (P := lawP) (C := rel T K L B) (cI (rsF T 0 21)) ?_ (fun D H => ?_)
    · unfold f_X11_rest J_X11_rest_2
      refine ok_bindI ((cspent_ok hp hC).mono fun q hq => ?_)
      rcases hq with ⟨rfl, -⟩ | ⟨rfl, z⟩
      · show Ok (J_X11_rest_35 D) _
        unfold J_X11_rest_35
        refine odds_cls H (fun D1 hC1 hN1 hK1 H1 => ok_biI ((crest_ok hp hn hC1 hK1 hl).mono fun r k => ?_))
        obtain ⟨y, D2⟩ := r
        exact ok_someI ⟨k.1, H1.cls k.2⟩
      · exact absurd hl z
    · refine (mrest_ok hp hn (MS.of H.2.2.2.2.1 H.2.2.2.2.2.1)).mono fun r k => ?_
      obtain ⟨k1, ⟨-, k2⟩ | ⟨z, -⟩⟩ := k
      · exact ⟨k2, T, K, L, B, H.mod k1⟩
      · exact absurd hl z
  · refine eq_step (fc := f_X11_rest D) (fm := f_X12_rest) (P := lawP) (C := rel T K L B) (cI (-2)) ?_ (fun D H => ?_)
    · unfold f_X11_rest J_X11_rest_2
      refine ok_bindI ((cspent_ok hp hC).mono fun q hq => ?_)
      rcases hq with ⟨rfl, z⟩ | ⟨rfl, -⟩
      · exact absurd z hl
      · exact ok_someI ⟨rfl, H⟩
    · refine (mrest_ok hp hn (MS.of H.2.2.2.2.1 H.2.2.2.2.2.1)).mono fun r k => ?_
      obtain ⟨k1, ⟨z, -⟩ | ⟨-, k2⟩⟩ := k
      · exact absurd z hl
      · exact ⟨k2, T, K, L, B, H.mod k1⟩
end RE3
