/-! town: the step (1) -/
section TWN
theorem mtown_ok {D : aD} {B : Nat → Int} {N : Nat} {L : Int} (hL : gI D 88 18 = cI L) (hN : (N : Int) ≤ L) (hL7 : L ≤ 700) (hB : ∀ j : Nat, j < N → 0 ≤ B j ∧ B j < 256 ∧ gI D 105 j = cI (B j)) (hO : gI D 90 0 = cI 20 ∧ gI D 90 1 = cI 9 ∧ gI D 90 2 = cI 14 ∧ gI D 90 3 = cI 99) (hTT : (rdX B N).1.1 = 0 → TOKp (rdX B N).2) :
    Ok (f_X12_town (cI (N : Int)) D) (fun r => r.1 = cI (rdX B N).1.1 ∧ r.2.2 = D.2 ∧ gI r.2 88 2 = cI 0 ∧ gI r.2 88 18 = cI 0 ∧ (((rdX B N).1.1 = 0 ∧ gI r.2 88 27 = cI (-1) ∧ MT r.2 (rdX B N).2 ∧ (∀ p : Nat, p < 13 → gI r.2 106 p = cI 0) ∧ (∀ i : Nat, i < 5 → gI r.2 107 i = cI (i : Int)) ∧ gI r.2 88 31 = cI 12 ∧ gI r.2 88 32 = cI 0 ∧ gI r.2 88 33 = cI 0 ∧ gI r.2 88 55 = cI 0 ∧ (∀ k j : Nat, k ≠ 88 → ¬ (91 ≤ k ∧ k ≤ 103) → k ≠ 106 → k ≠ 107 → gI r.2 k j = gI D k j)) ∨
      ((rdX B N).1.1 ≠ 0 ∧ gI r.2 88 27 = cI (rdX B N).1.2.1 ∧ gI r.2 104 0 = gI D 104 0 + 1 ∧ (∀ k j : Nat, ¬ (k = 88 ∧ (j = 2 ∨ (18 ≤ j ∧ j ≤ 27))) → ¬ mdr k j → ¬ (k = 104 ∧ j = 0) → gI r.2 k j = gI D k j)))) := by
  unfold f_X12_town
  rw [e_let, if_neg (show ¬ (cI (N : Int) < 0) by rw [cL0, cI_lt (by omega) (by omega) (by omega) (by omega)]; omega), gI_fr (by omega), hL, if_pos (show cI (N : Int) ≤ cI L by rw [cI_le (by omega) (by omega) (by omega) (by omega)]; omega), e_let, e_let, e_let, e_let, e_let]
  have fr : ∀ k j : Nat, ¬ (k = 88 ∧ (j = 2 ∨ (18 ≤ j ∧ j ≤ 27))) → gI (pI (pI (pI (pI (pI (pI D 88 2 0) 88 18 0) 88 20 (cI (N : Int))) 88 19 0) 88 25 0) 88 27 (-1)) k j = gI D k j := fun k j a => by
    rw [gI_fr (by omega), gI_fr (by omega), gI_fr (by omega), gI_fr (by omega), gI_fr (by omega), gI_fr (by omega)]
  have v2 : gI (pI (pI (pI (pI (pI (pI D 88 2 0) 88 18 0) 88 20 (cI (N : Int))) 88 19 0) 88 25 0) 88 27 (-1)) 88 2 = cI 0 := by
    rw [gI_fr (by omega), gI_fr (by omega), gI_fr (by omega), gI_fr (by omega), gI_fr (by omega)]; exact gI_eq
  have v18 : gI (pI (pI (pI (pI (pI (pI D 88 2 0) 88 18 0) 88 20 (cI (N : Int))) 88 19 0) 88 25 0) 88 27 (-1)) 88 18 = cI 0 := by
    rw [gI_fr (by omega), gI_fr (by omega), gI_fr (by omega), gI_fr (by omega)]; exact gI_eq
  have v20 : gI (pI (pI (pI (pI (pI (pI D 88 2 0) 88 18 0) 88 20 (cI (N : Int))) 88 19 0) 88 25 0) 88 27 (-1)) 88 20 = cI (N : Int) := by
    rw [gI_fr (by omega), gI_fr (by omega), gI_fr (by omega)]; exact gI_eq
  have v19 : gI (pI (pI (pI (pI (pI (pI D 88 2 0) 88 18 0) 88 20 (cI (N : Int))) 88 19 0) 88 25 0) 88 27 (-1)) 88 19 = cI ((0 : Nat) : Int) := by
    rw [gI_fr (by omega), gI_fr (by omega)]; exact gI_eq
  have v25 : gI (pI (pI (pI (pI (pI (pI D 88 2 0) 88 18 0) 88 20 (cI (N : Int))) 88 19 0) 88 25 0) 88 27 (-1)) 88 25 = cI 0 := by
    rw [gI_fr (by omega)]; exact gI_eq
  have v27 : gI (pI (pI (pI (pI (pI (pI D 88 2 0) 88 18 0) 88 20 (cI (N : Int))) 88 19 0) 88 25 0) 88 27 (-1)) 88 27 = cI (-1) := gI_eq
  have vv : (pI (pI (pI (pI (pI (pI D 88 2 0) 88 18 0) 88 20 (cI (N : Int))) 88 19 0) 88 25 0) 88 27 (-1)).2 = D.2 := rfl
  generalize pI (pI (pI (pI (pI (pI D 88 2 0) 88 18 0) 88 20 (cI (N : Int))) 88 19 0) 88 25 0) 88 27 (-1) = D1 at fr v2 v18 v20 v19 v25 v27 vv ⊢
  unfold J_X12_town_50
  refine ok_bindI (mini1_ok.mono fun D2 k => ?_)
  obtain ⟨a1, a2, a3⟩ := k
  unfold J_X12_town_122 J_X12_town_124
  refine ok_bindI (mini2_ok.mono fun D3 k => ?_)
  obtain ⟨b1, b2, b3⟩ := k
  have f3 : ∀ k j : Nat, ¬ (k = 91 ∧ 16 ≤ j) → ¬ (k = 103 ∧ 36 ≤ j) → gI D3 k j = gI D1 k j := fun k j x y => (b2 k j y).trans (a2 k j x)
  unfold J_X12_town_146
  have hB3 : MB D3 B N := ⟨by omega, (f3 _ _ (by omega) (by omega)).trans v20, fun j hj => ⟨(hB j hj).1, (hB j hj).2.1, (f3 _ _ (by omega) (by omega)).trans ((fr _ _ (by omega)).trans (hB j hj).2.2)⟩⟩
  refine ok_bindI ((mstep_ok hB3 ((f3 _ _ (by omega) (by omega)).trans v19) (Nat.zero_le N)).mono fun D4 k => ?_)
  obtain ⟨t1, t2, t3, t4⟩ := k
  have hC4 : MC D4 B N (tkX B N x0X) := ⟨hB3.fr t2.2.1 (fun j => t2.1 _ _ (by omega)), t3.trans ((f3 _ _ (by omega) (by omega)).trans v25), ⟨wf_0.1, wf_0.2.1⟩, fun z => absurd rfl z, fun _ => ⟨t1, wf_0⟩⟩
  have hM4 : MH D4 ctT := by
    refine ⟨fun j hj => ?_, fun f s _ hs => absurd (show (s : Int) < 0 from hs) (by omega), fun r p _ hs => absurd (show (p : Int) < 0 from hs) (by omega), fun i hs => absurd (show (i : Int) < 0 from hs) (by omega), fun m hm => ?_⟩
    · rw [t2.1 _ _ (by omega), b2 _ _ (by omega)]
      exact a1 j hj
    · rw [t2.1 _ _ (by omega), ct_r (by omega)]
      exact b1 m hm
  have f4 : ∀ k j : Nat, ¬ (k = 88 ∧ 19 ≤ j ∧ j ≤ 26) → ¬ (k = 91 ∧ 16 ≤ j) → ¬ (k = 103 ∧ 36 ≤ j) → gI D4 k j = gI D1 k j := fun k j x y z => (t2.1 k j x).trans (f3 k j y z)
  have hO4 : gI D4 90 0 = cI 20 ∧ gI D4 90 1 = cI 9 ∧ gI D4 90 2 = cI 14 ∧ gI D4 90 3 = cI 99 := ⟨(f4 _ _ (by omega) (by omega) (by omega)).trans ((fr _ _ (by omega)).trans hO.1), (f4 _ _ (by omega) (by omega) (by omega)).trans ((fr _ _ (by omega)).trans hO.2.1), (f4 _ _ (by omega) (by omega) (by omega)).trans ((fr _ _ (by omega)).trans hO.2.2.1), (f4 _ _ (by omega) (by omega) (by omega)).trans ((fr _ _ (by omega)).trans hO.2.2.2)⟩
  unfold J_X12_town_152
  refine ok_bindI ((mloop_ok hC4 hM4 hO4).mono fun D5 k => ?_)
  obtain ⟨k1, k2, k3, k4, k5⟩ := k
  have f5 : ∀ k j : Nat, ¬ (k = 88 ∧ 19 ≤ j ∧ j ≤ 26) → ¬ mdr k j → gI D5 k j = gI D1 k j := fun k j x y => (k4.1 k j x y).trans (f4 k j x (fun z => y (Or.inl z)) (fun z => y (Or.inr (Or.inr (Or.inr (Or.inr z))))))
  have s5 : D5.2 = D.2 := k4.2.2.trans (t2.2.2.trans (b3.trans (a3.trans vv)))
  unfold J_X12_town_175
  rw [k1]
  by_cases z : (rdX B N).1.1 = 0
  · rw [if_pos (show cI (rdX B N).1.1 = 0 by rw [z]; rfl)]
    refine ok_bindI (mtake_ok.mono fun D6 k => ok_someI ?_)
    obtain ⟨c1, c2, c3, c4, c5, c6, c7, c8, c9, c10⟩ := k
    obtain ⟨m1, m2, m3, m4, m5⟩ := k5 z
    have hq := (hTT z).1
    refine ⟨by rw [z]; rfl, c10.trans s5, ?_, ?_, Or.inl ⟨z, ?_, ⟨fun j hj => ?_, fun f s hf' hs => ?_, fun r p hr hp => ?_, fun i hi => ?_, fun m hm => ?_, ?_⟩, c2, c3, c5, c6, c7, c8, fun k j x y w u => ?_⟩⟩
    · rw [c9 _ _ (by omega) (by omega) (by omega) (by omega), f5 _ _ (by omega) (by unfold mdr; omega)]; exact v2
    · rw [c9 _ _ (by omega) (by omega) (by omega) (by omega), f5 _ _ (by omega) (by unfold mdr; omega)]; exact v18
    · rw [c9 _ _ (by omega) (by omega) (by omega) (by omega), f5 _ _ (by omega) (by unfold mdr; omega)]; exact v27
    · have e : hf 91 = 16 := rfl
      have q := c1 91 j (by omega) (by omega) (by omega)
      rw [e] at q
      exact q.trans (m1 j hj)
    · have e : hf (92 + f) = 6 := by
        unfold hf
        rw [if_neg (by omega), if_pos (by omega)]
      have q := c1 (92 + f) s (by omega) (by omega) (by omega)
      rw [e] at q
      exact q.trans (m2 f s hf' hs)
    · have e : hf (99 + r) = 13 := by
        unfold hf
        rw [if_neg (by omega), if_neg (by omega), if_pos (by omega)]
      have q := c1 (99 + r) p (by omega) (by omega) (by omega)
      rw [e] at q
      exact q.trans (m3 r p hr hp)
    · have e : hf 102 = 5 := rfl
      have q := c1 102 i (by omega) (by omega) (by omega)
      rw [e] at q
      exact q.trans (m4 i hi)
    · have e : hf 103 = 36 := rfl
      have q := c1 103 m (by omega) (by omega) (by omega)
      rw [e] at q
      exact q.trans (m5 m hm)
    · exact c4.trans (m1 4 (by omega))
    · rw [c9 k j (by omega) w u (by omega), f5 k j (by omega) (by unfold mdr; omega)]
      exact fr k j (by omega)
  · rw [if_neg (show ¬ (cI (rdX B N).1.1 = 0) by rw [cL0, cI_eq (by omega) (by omega) (by omega) (by omega)]; exact z), k2 z, e_let, e_gd (by decide), e_gd (by decide), e_let, show (0 : Int32).toNatClampNeg = 0 from rfl]
    have f6 : ∀ k j : Nat, ¬ (k = 88 ∧ j = 27) → ¬ (k = 104 ∧ j = 0) → ∀ w : Int32, gI (pI (pI D5 88 27 (cI (rdX B N).1.2.1)) 104 0 w) k j = gI D5 k j := fun k j x y w => by
      rw [gI_fr y, gI_fr x]
    refine ok_someI ⟨?_, s5, ?_, ?_, Or.inr ⟨z, ?_, ?_, fun k j x y w => ?_⟩⟩
    · dsimp only
      rw [f6 _ _ (by omega) (by omega)]
      exact k1
    · rw [f6 _ _ (by omega) (by omega), f5 _ _ (by omega) (by unfold mdr; omega)]; exact v2
    · rw [f6 _ _ (by omega) (by omega), f5 _ _ (by omega) (by unfold mdr; omega)]; exact v18
    · rw [gI_fr (by omega)]; exact gI_eq
    · rw [gI_eq, gI_fr (by omega), f5 _ _ (by omega) (by unfold mdr; omega), fr _ _ (by omega)]
    · rw [f6 _ _ (by omega) (by omega), f5 _ _ (by omega) y]
      exact fr k j (by omega)
theorem step_1 {D : aD} {v1 v2 v3 v4 v5 : Int32} (h : lawP D) : Ok2 (f_law_1 v1 v2 v3 v4 v5 D) (fun r D => r = 1 ∧ lawP D) := by
  obtain ⟨T, K, L, B, H⟩ := h
  have ⟨hp, hn, hC, hNow, hM, hR, hK, hTp, hF, hOO⟩ := H
  have ⟨t1, t2, t3, t4, t5⟩ := hTp
  have hq := hp.1
  obtain ⟨a, rfl, ha1, ha2⟩ := cI_of v1
  unfold f_law_1 f_L_town
  by_cases x1 : 0 ≤ a ∧ a ≤ L
  · have ea : ((a.toNat : Nat) : Int) = a := by omega
    refine hp_step (fc := f_X11_town (cI a) D) (fm := fun D => f_X12_town (cI a) D) (P := lawP) (C := ctwC D B a.toNat T) (some (cI (rdX B a.toNat).1.1)) (fun D x h => h) ?_ (fun D1 H1 => ?_)
    · have k := ctown_ok H (N := a.toNat) (by omega)
      rw [ea] at k
      exact k
    · obtain ⟨u1, u2, u3, u4, u5, u6⟩ := H1
      have hTT : (rdX B a.toNat).1.1 = 0 → TOKp (rdX B a.toNat).2 := fun z => by
        rcases u6 with w | w
        · exact w.2.1
        · exact absurd z (by omega)
      have mt := mtown_ok (D := D1) (B := B) (N := a.toNat) (L := L) ((u1 _ _ (by omega)).trans t2) (by omega) t4 (fun j hj => ⟨(t5 j (by omega)).1, (t5 j (by omega)).2.1, (u1 _ _ (by omega)).trans (t5 j (by omega)).2.2.2⟩) ⟨(u1 _ _ (by omega)).trans hOO.1, (u1 _ _ (by omega)).trans hOO.2.1, (u1 _ _ (by omega)).trans hOO.2.2.1, (u1 _ _ (by omega)).trans hOO.2.2.2.1⟩ hTT
      rw [ea] at mt
      refine mt.mono fun r k => ?_
      obtain ⟨y, D2⟩ := r
      obtain ⟨m1, m2, m3, m4, m5⟩ := k
      have m1' : y = cI (rdX B a.toNat).1.1 := m1
      have m3' : gI D2 88 2 = cI 0 := m3
      have m4' : gI D2 88 18 = cI 0 := m4
      refine ⟨⟨m3', m1'⟩, m2, ?_⟩
      rcases m5 with ⟨z, w27, wM', w106, w107, w31, w32, w33, w55, wf⟩ | ⟨z, w27, w104, wf⟩
      · have w27' : gI D2 88 27 = cI (-1) := w27
        have wM : MT D2 (rdX B a.toNat).2 := wM'
        have wf' : ∀ k j : Nat, k ≠ 88 → ¬ (91 ≤ k ∧ k ≤ 103) → k ≠ 106 → k ≠ 107 → gI D2 k j = gI D1 k j := wf
        rcases u6 with ⟨-, q1, q2, q3, q4, q5⟩ | w
        · have hq1 := q1.1
          have hp2 : TOKp (nwT (rdX B a.toNat).2 T) := q1.cg nw_low
          refine ⟨nwT (rdX B a.toNat).2 T, K, 0, B, hp2, nw_n q1, q3.fr hp2 (fun k j hk => wf' _ _ (by omega) (by omega) (by omega) (by omega)), aNow.fr q4 (fun j => wf' _ _ (by omega) (by omega) (by omega) (by omega)) (fun j => wf' _ _ (by omega) (by omega) (by omega) (by omega)) (fun r j hr => wf' _ _ (by omega) (by omega) (by omega) (by omega)) (fun j => wf' _ _ (by omega) (by omega) (by omega) (by omega)) (fun j hj => wf' _ _ (by omega) (by omega) (by omega) (by omega)), wM.cg nw_low, ⟨fun p hp' => ?_, fun i hi => ?_, fun r i hr hi => ?_, fun i hi => ?_, fun j hj => ?_⟩, Or.inl ⟨(wf' _ _ (by omega) (by omega) (by omega) (by omega)).trans q5, w55⟩, ⟨(wf' _ _ (by omega) (by omega) (by omega) (by omega)).trans u2, m4', by omega, by omega, fun j hj => absurd hj (by omega)⟩, ?_, ⟨?_, ?_, ?_, ?_, fun s hs => ?_⟩⟩
          · have hp3 : (p : Int) < (rdX B a.toNat).2 0 4 := hp'
            exact w106 p (by omega)
          · exact w107 i hi
          · have e : nwT (rdX B a.toNat).2 T (16 + r) i = T (16 + r) i := by
              unfold nwT
              rw [if_neg (by omega), if_neg (by omega), if_neg (by omega), if_neg (by omega)]
            rw [wf' _ _ (by omega) (by omega) (by omega) (by omega), u1 _ _ (by omega), e]
            exact hR.2.2.1 r i hr hi
          · rw [wf' _ _ (by omega) (by omega) (by omega) (by omega), u1 _ _ (by omega)]
            exact hR.2.2.2.1 i hi
          · have e : j = 0 ∨ j = 1 ∨ j = 2 := by omega
            rcases e with rfl | rfl | rfl
            · exact w31
            · exact w32
            · exact w33
          · rw [wf' _ _ (by omega) (by omega) (by omega) (by omega), u3, q2, w27']
          · exact (wf' _ _ (by omega) (by omega) (by omega) (by omega)).trans ((u1 _ _ (by omega)).trans hOO.1)
          · exact (wf' _ _ (by omega) (by omega) (by omega) (by omega)).trans ((u1 _ _ (by omega)).trans hOO.2.1)
          · exact (wf' _ _ (by omega) (by omega) (by omega) (by omega)).trans ((u1 _ _ (by omega)).trans hOO.2.2.1)
          · exact (wf' _ _ (by omega) (by omega) (by omega) (by omega)).trans ((u1 _ _ (by omega)).trans hOO.2.2.2.1)
          · rw [wf' _ _ (by omega) (by omega) (by omega) (by omega)]
            exact u4 s hs
        · exact absurd z (by omega)
      · have w27' : gI D2 88 27 = cI (rdX B a.toNat).1.2.1 := w27
        have wf' : ∀ k j : Nat, ¬ (k = 88 ∧ (j = 2 ∨ (18 ≤ j ∧ j ≤ 27))) → ¬ mdr k j → ¬ (k = 104 ∧ j = 0) → gI D2 k j = gI D1 k j := wf
        have w104' : gI D2 104 0 = gI D1 104 0 + 1 := w104
        rcases u6 with w | ⟨-, q1, q2, q3, q4⟩
        · exact absurd w.1 z
        · have lw : lowT T (tS T 20 0 (T 20 0 + 1)) := tS_low (by omega)
          have hn2 : TOKn (tS T 20 0 (T 20 0 + 1)) := by
            obtain ⟨n1, n2, n3, n4⟩ := hn
            unfold TOKn
            simp (disch := omega) only [tS_ne]
            exact ⟨n1, n2, n3, n4⟩
          have o : ∀ k j : Nat, ¬ (k = 88 ∧ (j = 2 ∨ (18 ≤ j ∧ j ≤ 27))) → ¬ mdr k j → ¬ (k = 104 ∧ j = 0) → 88 ≤ k → gI D2 k j = gI D k j := fun k j x y w v => (wf' k j x y w).trans (u1 k j v)
          refine ⟨tS T 20 0 (T 20 0 + 1), K, 0, B, hp.cg lw, hn2, (q1.fr hp (fun k j hk => wf' _ _ (by omega) (by unfold mdr; omega) (by omega))).cg lw, aNow.fr q2 (fun j => wf' _ _ (by omega) (by unfold mdr; omega) (by omega)) (fun j => wf' _ _ (by omega) (by unfold mdr; omega) (by omega)) (fun r j hr => wf' _ _ (by omega) (by unfold mdr; omega) (by omega)) (fun j => wf' _ _ (by omega) (by unfold mdr; omega) (by omega)) (fun j hj => wf' _ _ (by omega) (by unfold mdr; omega) (by omega)), MT.cg lw ?_, ⟨fun p hp' => ?_, fun i hi => ?_, fun r i hr hi => ?_, fun i hi => ?_, fun j hj => ?_⟩, ?_, ⟨(wf' _ _ (by omega) (by unfold mdr; omega) (by omega)).trans u2, m4', by omega, by omega, fun j hj => absurd hj (by omega)⟩, ?_, ⟨?_, ?_, ?_, ?_, fun s hs => ?_⟩⟩
          · obtain ⟨h1, h2, h3, h4, h5, h6⟩ := hM
            exact ⟨fun j a => (o _ _ (by omega) (by unfold mdr; omega) (by omega) (by omega)).trans (h1 j a), fun f s a b => (o _ _ (by omega) (by unfold mdr; omega) (by omega) (by omega)).trans (h2 f s a b), fun r p a b => (o _ _ (by omega) (by unfold mdr; omega) (by omega) (by omega)).trans (h3 r p a b), fun i a => (o _ _ (by omega) (by unfold mdr; omega) (by omega) (by omega)).trans (h4 i a), fun m a => (o _ _ (by omega) (by unfold mdr; omega) (by omega) (by omega)).trans (h5 m a), (o _ _ (by omega) (by unfold mdr; omega) (by omega) (by omega)).trans h6⟩
          · rw [tS_ne (by omega)] at hp'
            rw [tS_ne (by omega), o _ _ (by omega) (by unfold mdr; omega) (by omega) (by omega)]
            exact hR.1 p hp'
          · rw [tS_ne (by omega), o _ _ (by omega) (by unfold mdr; omega) (by omega) (by omega)]
            exact hR.2.1 i hi
          · rw [tS_ne (by omega), o _ _ (by omega) (by unfold mdr; omega) (by omega) (by omega)]
            exact hR.2.2.1 r i hr hi
          · by_cases y : i = 0
            · subst y
              rw [tS_eq, w104', u1 _ _ (by omega), hR.2.2.2.1 0 (by omega), cL1, cI_add]
            · rw [tS_ne (by omega), o _ _ (by omega) (by unfold mdr; omega) (by omega) (by omega)]
              exact hR.2.2.2.1 i hi
          · rw [tS_ne (by omega), o _ _ (by omega) (by unfold mdr; omega) (by omega) (by omega)]
            exact hR.2.2.2.2 j hj
          · have c7 : ∀ k j : Nat, (48 ≤ k ∧ k ≤ 55) ∨ (125 ≤ k ∧ k ≤ 131) ∨ (k = 0 ∧ j = 7) ∨ (k = 88 ∧ 55 ≤ j ∧ j ≤ 58) → gI D2 k j = gI D k j := fun k j e => by
              rcases e with e | e | e | e
              · exact (wf' _ _ (by omega) (by unfold mdr; omega) (by omega)).trans (q4 k j (by omega) (by omega))
              · exact o _ _ (by omega) (by unfold mdr; omega) (by omega) (by omega)
              · obtain ⟨rfl, rfl⟩ := e
                exact (wf' _ _ (by omega) (by unfold mdr; omega) (by omega)).trans q3
              · exact o _ _ (by omega) (by unfold mdr; omega) (by omega) (by omega)
            have h9 := hK.fr (D' := D2) c7
            unfold aKept at h9 ⊢
            rw [mixT_cg lw]
            exact h9
          · rw [wf' _ _ (by omega) (by unfold mdr; omega) (by omega), u3, w27']
          · exact (o _ _ (by omega) (by unfold mdr; omega) (by omega) (by omega)).trans hOO.1
          · exact (o _ _ (by omega) (by unfold mdr; omega) (by omega) (by omega)).trans hOO.2.1
          · exact (o _ _ (by omega) (by unfold mdr; omega) (by omega) (by omega)).trans hOO.2.2.1
          · exact (o _ _ (by omega) (by unfold mdr; omega) (by omega) (by omega)).trans hOO.2.2.2.1
          · rw [wf' _ _ (by omega) (by unfold mdr; omega) (by omega)]
            exact u4 s hs
  · refine hp_step (fc := f_X11_town (cI a) D) (fm := fun D => f_X12_town (cI a) D) (P := lawP) (C := rel T K L B) none (fun D x h => h) ?_ (fun D1 H1 => ?_)
    · unfold f_X11_town J_X11_town_12
      rw [t1]
      by_cases y : a < 0
      · rw [if_pos (show cI a < 0 by rw [cL0, cI_lt (by omega) (by omega) (by omega) (by omega)]; exact y)]
        exact ok_someI ⟨rfl, H⟩
      · rw [if_neg (show ¬ (cI a < 0) by rw [cL0, cI_lt (by omega) (by omega) (by omega) (by omega)]; exact y), if_neg (show ¬ (cI a ≤ cI L) by rw [cI_le (by omega) (by omega) (by omega) (by omega)]; omega)]
        exact ok_someI ⟨rfl, H⟩
    · have c18 : gI D1 88 18 = cI L := H1.2.2.2.2.2.2.2.1.2.1
      show Ok (f_X12_town (cI a) D1) _
      unfold f_X12_town
      rw [e_let]
      by_cases y : a < 0
      · rw [if_pos (show cI a < 0 by rw [cL0, cI_lt (by omega) (by omega) (by omega) (by omega)]; exact y), fail_eq, e_bi]
        exact ok_someI ⟨gI_eq, rfl, T, K, L, B, H1.code.code⟩
      · rw [if_neg (show ¬ (cI a < 0) by rw [cL0, cI_lt (by omega) (by omega) (by omega) (by omega)]; exact y), gI_fr (by omega), c18, if_neg (show ¬ (cI a ≤ cI L) by rw [cI_le (by omega) (by omega) (by omega) (by omega)]; omega), fail_eq, e_bi]
        exact ok_someI ⟨gI_eq, rfl, T, K, L, B, H1.code.code⟩
end TWN
