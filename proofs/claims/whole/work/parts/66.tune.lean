/-! best: the class's search -/
section TU2
noncomputable def tuF (T : aT) (g : Nat) (fl : Int) (H : Nat → Int) : Int × (Nat → Int) := (rwF (mcN T (mnA T g)) H).foldl (fsV (valN T g)) (fl, H)
theorem val_b {T : aT} {g : Nat} {H : Nat → Int} (h : ∀ w : Nat, w < 5 → 0 ≤ T 0 (10 + w) ∧ T 0 (10 + w) ≤ 99) : 0 ≤ valN T g H ∧ valN T g H ≤ allN T := by
  have h' : ∀ w : Nat, w < 5 → 0 ≤ hwT T H 0 (10 + w) ∧ hwT T H 0 (10 + w) ≤ 99 := by rw [hw_o (by omega)]; exact h
  have a := wt_b (g := g) (n := 5) h' (by omega)
  have b := wt_left (g := g) (i := 0) h' (by omega)
  have e : allN (hwT T H) = allN T := by unfold allN; rw [hw_o (by omega)]
  rw [e] at b
  have z : wtN (hwT T H) g 0 = 0 := rfl
  have z2 : sgN 0 (fun w => hwT T H 0 (10 + w)) = 0 := rfl
  unfold valN
  omega
theorem mc_nd {T : aT} {g n : Nat} (h : ∀ p : Nat, p ∈ mnN T g n → 0 < cwN T p ∧ cwN T p ≤ 3) : ndS (mcN T (mnN T g n)) := by
  refine ⟨?_, fun q hq => ?_⟩
  · have e : (mcN T (mnN T g n)).map Prod.fst = mnN T g n := by
      unfold mcN
      rw [List.map_map]
      exact List.map_id _
    rw [e]
    exact List.Nodup.sublist List.filter_sublist List.nodup_range
  · unfold mcN at hq
    obtain ⟨p, p1, p2⟩ := List.mem_map.mp hq
    rw [← p2]
    exact (h p p1).1
theorem mn_cw {T : aT} {g n : Nat} (hp : TOKp T) (hn : n ≤ (T 0 4).toNat) : ∀ p : Nat, p ∈ mnN T g n → 0 < cwN T p ∧ cwN T p ≤ 3 := fun p h => by
  have m := mn_mem h
  have hq := hp.1
  have r := hp.2.2.2.1 p (by omega)
  have r7 := hp.2.2.1 (T 8 p).toNat (by omega)
  exact cw_b (by omega)
theorem tune_ok {D : aD} {T : aT} {H : Nat → Int} {g : Nat} {fl : Int} (hp : TOKp T) (hn : TOKn T) (hC : CP D 2 T) (hK : CK D (hwT T H) (wOn T)) (hg : (g : Int) < T 0 3) (hl : (mnA T g).length ≤ 6) (hH : ∀ p : Nat, 0 ≤ H p ∧ H p ≤ 2) (h1 : -1 ≤ fl) (h2 : fl ≤ 495) :
    Ok (f_X3_tune (cI (g : Int)) (cI fl) D) (fun r => r.1 = cI (tuF T g fl H).1 ∧ (fl < (tuF T g fl H).1 → ∀ i p : Nat, (mnA T g)[i]? = some p → gI r.2 72 i = cI ((tuF T g fl H).2 p)) ∧ lsD r.2 T H (mnA T g) ∧ (∃ X : Nat → Int, CK r.2 (hwT T X) (wOn T) ∧ ∀ p : Nat, p ∉ mnA T g → X p = H p) ∧
      ∀ k j : Nat, k ≠ 58 → k ≠ 59 → k ≠ 63 → k ≠ 66 → ¬ (68 ≤ k ∧ k ≤ 72) → gI r.2 k j = gI D k j) := by
  have hq := hp.1
  have hT := TOKs.of hp hn
  have ab := all_b hp.2.1
  have cw := mn_cw (g := g) hp (Nat.le_refl (T 0 4).toNat)
  have nd := mc_nd cw
  have nd' : ndS (mcN T (mnA T g)) := nd
  have cw' : ∀ p : Nat, p ∈ mnA T g → 0 < cwN T p ∧ cwN T p ≤ 3 := cw
  have hin : ∀ p : Nat, p ∈ mnA T g → (p : Int) < T 0 4 := fun p h => by have := (mn_mem h).1; omega
  have c3 : ∀ q : Nat × Nat, q ∈ mcN T (mnA T g) → q.2 ≤ 3 := fun q hq => by
    unfold mcN at hq
    obtain ⟨p, p1, p2⟩ := List.mem_map.mp hq
    rw [← p2]
    exact (cw' p p1).2
  have len0 := rw_len (mcN T (mnA T g)) H c3
  have mlen : (mcN T (mnA T g)).length = (mnA T g).length := by unfold mcN; rw [List.length_map]
  have len : (rwF (mcN T (mnA T g)) H).length ≤ 729 := by
    rw [mlen] at len0
    have k : 3 ^ (mnA T g).length ≤ 3 ^ 6 := Nat.pow_le_pow_right (by omega) hl
    omega
  have ch := ch_rw (mcN T (mnA T g)) H nd'
  obtain ⟨L1, hd⟩ := rw_hd (mcN T (mnA T g)) H nd'
  have bd : ∀ X : Nat → Int, X ∈ rwF (mcN T (mnA T g)) H → (∀ p : Nat, 0 ≤ X p ∧ X p ≤ 2) ∧ ∀ p : Nat, p ∉ mnA T g → X p = H p := fun X hX => by
    have k := rw_bd (B := 2) _ H X c3 hH hX
    refine ⟨k.1, fun p hp => k.2 p (fun q hq z => hp ?_)⟩
    unfold mcN at hq
    obtain ⟨p', p1, p2⟩ := List.mem_map.mp hq
    have e : p' = p := by rw [← z, ← p2]
    rw [← e]
    exact p1
  unfold f_X3_tune
  refine ok_bindI ((list_ok hp hn hC hK hg hl).mono fun D1 q => ?_)
  obtain ⟨l1, l2, l3⟩ := q
  have hC1 : CP D1 2 T := hC.fr hp (fun k j hk => l3 _ j (by omega) (by omega))
  rw [callW_eq hp hC1, e_bi]
  unfold J_X3_tune_22
  have tf : tuF T g fl H = (rwF (mcN T (mnA T g)) H).foldl (fsV (valN T g)) (fl, H) := rfl
  generalize hLL : rwF (mcN T (mnA T g)) H = L at len ch hd bd tf
  have end_ : ∀ (D2 : aD) (st : Int × (Nat → Int)), st = tuF T g fl H → (fl < st.1 → ∀ i p : Nat, (mnA T g)[i]? = some p → gI D2 72 i = cI (st.2 p)) → lsD D2 T H (mnA T g) → (∃ X : Nat → Int, CK D2 (hwT T X) (wOn T) ∧ ∀ p : Nat, p ∉ mnA T g → X p = H p) → (∀ k j : Nat, k ≠ 58 → k ≠ 59 → k ≠ 63 → k ≠ 66 → ¬ (68 ≤ k ∧ k ≤ 72) → gI D2 k j = gI D k j) →
      Ok (J_X3_tune_80 (cI st.1) D2) (fun r => r.1 = cI (tuF T g fl H).1 ∧ (fl < (tuF T g fl H).1 → ∀ i p : Nat, (mnA T g)[i]? = some p → gI r.2 72 i = cI ((tuF T g fl H).2 p)) ∧ lsD r.2 T H (mnA T g) ∧ (∃ X : Nat → Int, CK r.2 (hwT T X) (wOn T) ∧ ∀ p : Nat, p ∉ mnA T g → X p = H p) ∧
      ∀ k j : Nat, k ≠ 58 → k ≠ 59 → k ≠ 63 → k ≠ 66 → ¬ (68 ≤ k ∧ k ≤ 72) → gI r.2 k j = gI D k j) := by
    rintro D2 st rfl a b c d
    exact ok_someI ⟨rfl, a, b, c, d⟩
  refine ok_bindI (ok_lp (fun k t => ∃ done rest : List (Nat → Int), L = done ++ rest ∧ done.length = k ∧ t.1 = cI (done.foldl (fsV (valN T g)) (fl, H)).1 ∧ (-1 ≤ (done.foldl (fsV (valN T g)) (fl, H)).1 ∧ (done.foldl (fsV (valN T g)) (fl, H)).1 ≤ 495) ∧ (fl < (done.foldl (fsV (valN T g)) (fl, H)).1 → ∀ i p : Nat, (mnA T g)[i]? = some p → gI t.2.2.2 72 i = cI ((done.foldl (fsV (valN T g)) (fl, H)).2 p)) ∧ t.2.2.1 = cI (k : Int) ∧
      lsD t.2.2.2 T H (mnA T g) ∧ ((rest = [] ∧ t.2.1 = cI 0 ∧ ∃ X : Nat → Int, CK t.2.2.2 (hwT T X) (wOn T) ∧ ∀ p : Nat, p ∉ mnA T g → X p = H p) ∨ (chW (nxS (mcN T (mnA T g))) rest ∧ t.2.1 = cI 1 ∧ ∃ (X : Nat → Int) (R : List (Nat → Int)), rest = X :: R ∧ CK t.2.2.2 (hwT T X) (wOn T))) ∧ (∀ k j : Nat, k ≠ 58 → k ≠ 59 → k ≠ 63 → k ≠ 66 → ¬ (68 ≤ k ∧ k ≤ 72) → gI t.2.2.2 k j = gI D k j)) L.length (by omega)
    ⟨[], L, rfl, rfl, rfl, ⟨h1, h2⟩, fun z => absurd z (Int.lt_irrefl _), rfl, l1, Or.inr ⟨ch, rfl, _, L1, hd, l2⟩, fun k j a b c d e => l3 k j c (by omega)⟩ ?_)
  rintro k ⟨x1, x2, x3, D2⟩ hk ⟨done, rest, e1, e2, q1, q2, q3, q4, q5, q6, q7⟩
  obtain rfl : x1 = _ := q1
  obtain rfl : x3 = _ := q4
  have q7' : ∀ k j : Nat, k ≠ 58 → k ≠ 59 → k ≠ 63 → k ≠ 66 → ¬ (68 ≤ k ∧ k ≤ 72) → gI D2 k j = gI D k j := q7
  have q5' : lsD D2 T H (mnA T g) := q5
  generalize hst : done.foldl (fsV (valN T g)) (fl, H) = st at q2 q3
  show Ok (B_X3_tune_22 (cI (g : Int)) (cI (allN T)) (cI st.1) x2 (cI (k : Int)) D2) _
  rcases q6 with ⟨r0, r1, r2⟩ | ⟨r0, r1, X, R, r3, r4⟩
  · obtain rfl : x2 = cI 0 := r1
    have eL : st = tuF T g fl H := by rw [tf, e1, r0, List.append_nil, hst]
    unfold B_X3_tune_22
    by_cases c : (729 : Int32) ≤ cI (k : Int)
    · rw [if_pos c]
      exact ok_someI (Or.inr ⟨_, rfl, end_ D2 st eL q3 q5 r2 q7⟩)
    · rw [if_neg c, if_pos (show cI 0 = 0 from rfl)]
      exact ok_someI (Or.inr ⟨_, rfl, end_ D2 st eL q3 q5 r2 q7⟩)
  · obtain rfl : x2 = cI 1 := r1
    subst r3
    have hX : X ∈ L := by rw [e1]; simp
    have bX := bd X hX
    have kl : k < L.length := by rw [e1, List.length_append, ← e2]; simp
    have vb := val_b (g := g) (H := X) hp.2.1
    by_cases c : allN T ≤ st.1
    · have eL : st = tuF T g fl H := by
        rw [tf, e1, List.foldl_append, hst]
        exact (fv_id _ _ (fun Y _ => Int.le_trans (val_b (g := g) (H := Y) hp.2.1).2 c)).symm
      unfold B_X3_tune_22
      rw [if_neg (show ¬ ((729 : Int32) ≤ cI (k : Int)) by rw [show (729 : Int32) = cI 729 from rfl, cI_le (by omega) (by omega) (by omega) (by omega)]; omega), if_neg (show ¬ (cI 1 = 0) by decide), if_pos (show cI (allN T) ≤ cI st.1 by rw [cI_le (by omega) (by omega) (by omega) (by omega)]; exact c)]
      exact ok_someI (Or.inr ⟨_, rfl, end_ D2 st eL q3 q5 ⟨X, r4, bX.2⟩ q7⟩)
    · have fe : (done ++ [X]).foldl (fsV (valN T g)) (fl, H) = fsV (valN T g) st X := by rw [List.foldl_append, hst]; rfl
      have nb : -1 ≤ (fsV (valN T g) st X).1 ∧ (fsV (valN T g) st X).1 ≤ 495 := by
        unfold fsV
        split
        · dsimp only; omega
        · exact q2
      suffices hsu : ∀ Q : ((Int32 × Int32 × Int32 × aD) ⊕ (Int32 × aD)) → Prop, (∀ (y : Int32) (D5 : aD), (fl < (fsV (valN T g) st X).1 → ∀ i p : Nat, (mnA T g)[i]? = some p → gI D5 72 i = cI ((fsV (valN T g) st X).2 p)) → lsD D5 T H (mnA T g) → ((R = [] ∧ y = cI 0 ∧ ∃ X : Nat → Int, CK D5 (hwT T X) (wOn T) ∧ ∀ p : Nat, p ∉ mnA T g → X p = H p) ∨ (chW (nxS (mcN T (mnA T g))) R ∧ y = cI 1 ∧ ∃ (X : Nat → Int) (R' : List (Nat → Int)), R = X :: R' ∧ CK D5 (hwT T X) (wOn T))) → (∀ k j : Nat, k ≠ 58 → k ≠ 59 → k ≠ 63 → k ≠ 66 → ¬ (68 ≤ k ∧ k ≤ 72) → gI D5 k j = gI D k j) → Q (.inl (cI (fsV (valN T g) st X).1, y, cI ((k : Int) + 1), D5))) → Ok (B_X3_tune_22 (cI (g : Int)) (cI (allN T)) (cI st.1) (cI 1) (cI (k : Int)) D2) Q from
        hsu _ (fun y D5 a b c d => Or.inl ⟨_, rfl, kl, done ++ [X], R, by rw [e1]; simp, by rw [List.length_append, e2]; rfl, by rw [fe], by rw [fe]; exact nb, by rw [fe]; exact a, rfl, b, c, d⟩)
      intro Q hQ
      -- the step to the next row
      have nxt : ∀ D3 : aD, CK D3 (hwT T X) (wOn T) → lsD D3 T H (mnA T g) → (fl < (fsV (valN T g) st X).1 → ∀ i p : Nat, (mnA T g)[i]? = some p → gI D3 72 i = cI ((fsV (valN T g) st X).2 p)) → (∀ k j : Nat, k ≠ 58 → k ≠ 59 → k ≠ 63 → k ≠ 66 → ¬ (68 ≤ k ∧ k ≤ 72) → gI D3 k j = gI D k j) → Ok (J_X3_tune_68 (cI (g : Int)) (cI (allN T)) (cI (fsV (valN T g) st X).1) (cI (k : Int)) D3) Q := by
        intro D3 m1 m2 m3 m4
        unfold J_X3_tune_68
        refine ok_biI ((stepW_ok hl hin (by omega) cw' m1 m2 bX.1).mono fun r hr => ?_)
        obtain ⟨y, D4⟩ := r
        obtain ⟨w1, w2, w3⟩ := hr
        obtain rfl : y = _ := w1
        have w3' : ∀ k j : Nat, k ≠ 63 → gI D4 k j = gI D3 k j := w3
        have w2' : CK D4 (hwT T (nxS (mcN T (mnA T g)) X).2) (wOn T) := w2
        show Ok (some (.inl (cI (fsV (valN T g) st X).1, cI (if (nxS (mcN T (mnA T g)) X).1 then 1 else 0), cI (k : Int) + cI 1, D4))) Q
        rw [cI_add]
        have ls4 : lsD D4 T H (mnA T g) := ⟨⟨(w3' _ _ (by omega)).trans m2.1.1, fun i q h => (w3' _ _ (by omega)).trans (m2.1.2 i q h)⟩, fun i q h => ⟨(w3' _ _ (by omega)).trans (m2.2 i q h).1, (w3' _ _ (by omega)).trans (m2.2 i q h).2⟩⟩
        refine ok_someI (hQ _ _ (fun z i p h => (w3' _ _ (by omega)).trans (m3 z i p h)) ls4 ?_ (fun k j a b c d e => (w3' _ _ c).trans (m4 k j a b c d e)))
        match R, r0 with
        | [], r0 =>
          have r0' : (nxS (mcN T (mnA T g)) X).1 = false := r0
          have f := nx_f _ H X nd' (by rw [hLL]; exact hX) r0'
          refine Or.inl ⟨rfl, by rw [r0']; rfl, _, w2', fun p hp => ?_⟩
          rw [f]
          exact zr_o _ _ (fun q hq z => hp (by
            unfold mcN at hq
            obtain ⟨p', p1, p2⟩ := List.mem_map.mp hq
            have e : p' = p := by rw [← z, ← p2]
            rw [← e]
            exact p1))
        | X' :: R', r0 =>
          have n1 : nxS (mcN T (mnA T g)) X = (true, X') := r0.1
          refine Or.inr ⟨r0.2, by rw [n1]; rfl, X', R', rfl, ?_⟩
          rw [n1] at w2'
          exact w2'
      unfold B_X3_tune_22
      rw [if_neg (show ¬ ((729 : Int32) ≤ cI (k : Int)) by rw [show (729 : Int32) = cI 729 from rfl, cI_le (by omega) (by omega) (by omega) (by omega)]; omega), if_neg (show ¬ (cI 1 = 0) by decide), if_neg (show ¬ (cI (allN T) ≤ cI st.1) by rw [cI_le (by omega) (by omega) (by omega) (by omega)]; exact c)]
      have hC2 : CP D2 2 T := hC.fr hp (fun k j hk => q7' _ j (by omega) (by omega) (by omega) (by omega) (by omega))
      refine ok_biI ((won_ok (g := g) (fl := st.1) hp hC2 (hw_ok hT (fun p _ => bX.1 p)) hw_scn r4 (fun w h => h) hg q2.1 (by omega) (show T 0 4 ≤ 12 by have := hp.1; omega)).mono fun r hr => ?_)
      obtain ⟨y, D3⟩ := r
      obtain ⟨⟨v, v1, v2, v3, v4⟩, v5⟩ := hr
      obtain rfl : y = cI v := v1
      have v5' : ∀ k j : Nat, k ≠ 58 → k ≠ 59 → k ≠ 66 → gI D3 k j = gI D2 k j := v5
      have v2' : st.1 < valN T g X → v = valN T g X := v2
      have v3' : valN T g X ≤ st.1 → v ≤ st.1 := v3
      have K3 := CK.fr2 r4 (D' := D3) (fun k j a b => v5' k j (by omega) (by omega) (by omega))
      have ls3 : lsD D3 T H (mnA T g) := ⟨⟨(v5' _ _ (by omega) (by omega) (by omega)).trans q5'.1.1, fun i q h => (v5' _ _ (by omega) (by omega) (by omega)).trans (q5'.1.2 i q h)⟩, fun i q h => ⟨(v5' _ _ (by omega) (by omega) (by omega)).trans (q5'.2 i q h).1, (v5' _ _ (by omega) (by omega) (by omega)).trans (q5'.2 i q h).2⟩⟩
      dsimp only
      by_cases z : st.1 < valN T g X
      · have e : fsV (valN T g) st X = (valN T g X, X) := if_pos z
        have ve := v2' z
        rw [if_neg (show ¬ (cI v ≤ cI st.1) by rw [cI_le (by omega) (by omega) (by omega) (by omega)]; omega)]
        refine ok_bindI ((keepR_ok hl hin (by omega) K3 ls3).mono fun D4 hr => ?_)
        obtain ⟨w1, w2⟩ := hr
        have N := nxt D4 (CK.fr2 K3 (fun k j a b => w2 _ _ (by omega))) ⟨⟨(w2 _ _ (by omega)).trans ls3.1.1, fun i q h => (w2 _ _ (by omega)).trans (ls3.1.2 i q h)⟩, fun i q h => ⟨(w2 _ _ (by omega)).trans (ls3.2 i q h).1, (w2 _ _ (by omega)).trans (ls3.2 i q h).2⟩⟩ (fun _ i p h => by rw [e]; exact w1 i p h) (fun k j a b c d f => (w2 _ _ (by omega)).trans ((v5' _ _ a b d).trans (q7' k j a b c d f)))
        rw [e] at N
        rw [ve]
        exact N
      · have e : fsV (valN T g) st X = st := if_neg z
        have vl := v3' (Int.not_lt.mp z)
        rw [if_pos (show cI v ≤ cI st.1 by rw [cI_le (by omega) (by omega) (by omega) (by omega)]; exact vl)]
        have N := nxt D3 K3 ls3 (fun z i p h => by rw [e] at z ⊢; exact (v5' _ _ (by omega) (by omega) (by omega)).trans (q3 z i p h)) (fun k j a b c d f => (v5' _ _ a b d).trans (q7' k j a b c d f))
        rw [e] at N
        exact N
end TU2
