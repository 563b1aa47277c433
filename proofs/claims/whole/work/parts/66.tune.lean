/-! best: the class's search -/
section TU2
noncomputable def tuF (T : aT) (g : Nat) (fl : Int) (H : Nat → Int) : Int × (Nat → Int) := (rwF (mcN T (mnA T g)) H).foldl (fsV (valN T g)) (fl, H)
theorem val_b {T : aT} {g : Nat} {H : Nat → Int} (h : ∀ w : Nat, w < 5 → 0 ≤ T 0 (10 + w) ∧ T 0 (10 + w) ≤ 99) : 0 ≤ valN T g H ∧ valN T g H ≤ allN T := by
  have h' : ∀ w : Nat, w < 5 → 0 ≤ hwT T H 0 (10 + w) ∧ hwT T H 0 (10 + w) ≤ 99 := by rw [hw_o (by omega)]; exact h
  have a := wt_b (g := g) (n := 5) h' (by omega)
  have b := wt_left (g := g) (i := 0) h' (by omega)
  have e : allN (hwT T H) = allN T := by unfold allN; rw [hw_o (by omega)]
  rw [e] at b
  have z : wtN (hwT T H) g 0 = 0 := rfl
  have z2 : sgN 0 (fun w => hwT T H 0 (10 + w)) = 0 := rfl
  unfold valN
  omega
theorem mc_nd {T : aT} {g n : Nat} (h : ∀ p : Nat, p ∈ mnN T g n → 0 < cwN T p ∧ cwN T p ≤ 3) : ndS (mcN T (mnN T g n)) := by
  refine ⟨?_, fun q hq => ?_⟩
  · have e : (mcN T (mnN T g n)).map Prod.fst = mnN T g n := by
      unfold mcN
      rw [List.map_map]
      exact List.map_id _
    rw [e]
    exact List.Nodup.sublist List.filter_sublist List.nodup_range
  · unfold mcN at hq
    obtain ⟨p, p1, p2⟩ := List.mem_map.mp hq
    rw [← p2]
    exact (h p p1).1
theorem mn_cw {T : aT} {g n : Nat} (hp : TOKp T) (hn : n ≤ (T 0 4).toNat) : ∀ p : Nat, p ∈ mnN T g n → 0 < cwN T p ∧ cwN T p ≤ 3 := fun p h => by
  have m := mn_mem h
  have hq := hp.1
  have r := hp.2.2.2.1 p (by omega)
  have r7 := hp.2.2.1 (T 8 p).toNat (by omega)
  exact cw_b (by omega)
theorem tune_ok {D : aD} {T : aT} {H : Nat → Int} {g : Nat} {fl : Int} (hp : TOKp T) (hn : TOKn T) (hC : CP D 2 T) (hK : CK D (hwT T H) (wOn T)) (hg : (g : Int) < T 0 3) (hl : (mnA T g).length ≤ 6) (hH : ∀ p : Nat, 0 ≤ H p ∧ H p ≤ 2) (h1 : -1 ≤ fl) (h2 : fl ≤ 495) :
    Ok (f_X3_tune (cI (g : Int)) (cI fl) D) (fun r => r.1 = cI (tuF T g fl H).1 ∧ (fl < (tuF T g fl H).1 → ∀ i p : Nat, (mnA T g)[i]? = some p → gI r.2 72 i = cI ((tuF T g fl H).2 p)) ∧ lsD r.2 T H (mnA T g) ∧ (∃ X : Nat → Int, CK r.2 (hwT T X) (wOn T) ∧ ∀ p : Nat, p ∉ mnA T g → X p = H p) ∧
      ∀ k j : Nat, k ≠ 58 → k ≠ 59 → k ≠ 63 → k ≠ 66 → ¬ (68 ≤ k ∧ k ≤ 72) → gI r.2 k j = gI D k j) := by
  have hq := hp.1
  have hT := TOKs.of hp hn
  have ab := all_b hp.2.1
  have cw := mn_cw (g := g) hp (Nat.le_refl (T 0 4).toNat)
  have nd := mc_nd cw
  have nd' : ndS (mcN T (mnA T g)) := nd
  have cw' : ∀ p : Nat, p ∈ mnA T g → 0 < cwN T p ∧ cwN T p ≤ 3 := cw
  have hin : ∀ p : Nat, p ∈ mnA T g → (p : Int) < T 0 4 := fun p h => by have := (mn_mem h).1; omega
  have c3 : ∀ q : Nat × Nat, q ∈ mcN T (mnA T g) → q.2 ≤ 3 := fun q hq => by
    unfold mcN at hq
    obtain ⟨p, p1, p2⟩ := List.mem_map.mp hq
    rw [← p2]
    exact (cw' p p1).2
  have len0 := rw_len (mcN T (mnA T g)) H c3
  have mlen : (mcN T (mnA T g)).length = (mnA T g).length := by unfold mcN; rw [List.length_map]
  have len : (rwF (mcN T (mnA T g)) H).length ≤ 729 := by
    rw [mlen] at len0
    have k : 3 ^ (mnA T g).length ≤ 3 ^ 6 := Nat.pow_le_pow_right (by omega) hl
    omega
  have ch := ch_rw (mcN T (mnA T g)) H nd'
  obtain ⟨L1, hd⟩ := rw_hd (mcN T (mnA T g)) H nd'
  have bd : ∀ X : Nat → Int, X ∈ rwF (mcN T (mnA T g)) H → (∀ p : Nat, 0 ≤ X p ∧ X p ≤ 2) ∧ ∀ p : Nat, p ∉ mnA T g → X p = H p := fun X hX => by
    have k := rw_bd (B := 2) _ H X c3 hH hX
    refine ⟨k.1, fun p hp => k.2 p (fun q hq z => hp ?_)⟩
    unfold mcN at hq
    obtain ⟨p', p1, p2⟩ := List.mem_map.mp hq
    have e : p' = p := by rw [← z, ← p2]
    rw [← e]
    exact p1
  unfold f_X3_tune
  refine ok_bindI ((list_ok hp hn hC hK hg hl).mono fun D1 q => ?_)
  obtain ⟨l1, l2, l3⟩ := q
  have hC1 : CP D1 2 T := hC.fr hp (fun k j hk => l3 _ j (by omega) (by omega))
  rw [callW_eq hp hC1, e_bi]
  unfold J_X3_tune_22
  have tf : tuF T g fl H = (rwF (mcN T (mnA T g)) H).foldl (fsV (valN T g)) (fl, H) := rfl
  generalize hLL : rwF (mcN T (mnA T g)) H = L at len ch hd bd tf
  have end_ : ∀ (D2 : aD) (st : Int × (Nat → Int)), st = tuF T g fl H → (fl < st.1 → ∀ i p : Nat, (mnA T g)[i]? = some p → gI D2 72 i = cI (st.2 p)) → lsD D2 T H (mnA T g) → (∃ X : Nat → Int, CK D2 (hwT T X) (wOn T) ∧ ∀ p : Nat, p ∉ mnA T g → X p = H p) → (∀ k j : Nat, k ≠ 58 → k ≠ 59 → k ≠ 63 → k ≠ 66 → ¬ (68 ≤ k ∧ k ≤ 72) → gI D2 k j = gI D k j) →
      Ok (J_X3_tune_80 (cI st.1) D2) (fun r => r.1 = cI (tuF T g fl H).1 ∧ (fl < (tuF T g fl H).1 → ∀ i p : Nat, (mnA T g)[i]? = some p → gI r.2 72 i = cI ((tuF T g fl H).2 p)) ∧ lsD r.2 T H (mnA T g) ∧ (∃ X : Nat → Int, CK r.2 (hwT T X) (wOn T) ∧ ∀ p : Nat, p ∉ mnA T g → X p = H p) ∧
      ∀ k j : Nat, k ≠ 58 → k ≠ 59 → k ≠ 63 → k ≠ 66 → ¬ (68 ≤ k ∧ k ≤ 72) → gI r.2 k j = gI D k j) := by
    rintro D2 st rfl a b c d
    exact ok_someI ⟨rfl, a, b, c, d⟩
  refine ok_bindI (ok_lp (fun k t => ∃ done rest : List (Nat → Int), L = done ++ rest ∧ done.length = k ∧ t.1 = cI (done.foldl (fsV (valN T g)) (fl, H)).1 ∧ (-1 ≤ (done.foldl (fsV (valN T g)) (fl, H)).1 ∧ (done.foldl (fsV (valN T g)) (fl, H)).1 ≤ 495) ∧ (fl < (done.foldl (fsV (valN T g)) (fl, H)).1 → ∀ i p : Nat, (mnA T g)[i]? = some p → gI t.2.2.2 72 i = cI ((done.foldl (fsV (valN T g)) (fl, H)).2 p)) ∧ t.2.2.1 = cI (k : Int) ∧
      lsD t.2.2.2 T H (mnA T g) ∧ (∃ X : Nat → Int, X ∈ L ∨ rest = [] ∧ ∀ p : Nat, p ∉ mnA T g → X p = H p) ∧ (∀ k j : Nat, k ≠ 58 → k ≠ 59 → k ≠ 63 → k ≠ 66 → ¬ (68 ≤ k ∧ k ≤ 72) → gI t.2.2.2 k j = gI D k j)) L.length (by omega) ?_ ?_)
  · sorry
  · sorry
end TU2
