/-! rest: answers (17) -/
section RE2
theorem crest_ok {D : aD} {T : aT} (hp : TOKp T) (hn : TOKn T) (hC : CP D 2 T) (hK : CK D T (wOn T)) (hl : ∀ g : Nat, (g : Int) < T 0 3 → (mnA T g).length ≤ 6) :
    Ok (f_X3_roundsToRest D) (fun r => r.1 = cI (rsF T 0 21) ∧ ∀ k j : Nat, ¬ (57 ≤ k ∧ k < 88) → gI r.2 k j = gI D k j) := by
  have hq := hp.1
  have hT := TOKs.of hp hn
  have sb := seq_b hp hn
  have cb := fun r => cd_b (H := seqN T r) (sb r).1 (T 0 4).toNat
  have pw := p3 (n := (T 0 4).toNat) (by omega)
  unfold f_X3_roundsToRest J_X3_roundsToRest_2
  refine ok_bindI (ok_lp (K := fun q => ∃ D' : aD, (∀ k j : Nat, ¬ (57 ≤ k ∧ k < 88) → gI D' k j = gI D k j) ∧ ((q = .inl D' ∧ rsF T 0 21 = -1) ∨ (∃ r : Nat, q = .inr (.inl (cI (r : Int), D')) ∧ rsF T 0 21 = (r : Int)) ∨ (q = .inr (.inr D') ∧ rsF T 0 21 = -1)))
    (fun r t => t.1 = cI (r : Int) ∧ CK t.2 (hwT T (seqN T r)) (wOn T) ∧ (∀ j : Nat, j < r → gI t.2 73 j = cI (cdN (seqN T j) (T 0 4).toNat)) ∧ (∀ j : Nat, j < r → tnN T j = true) ∧ ∀ k j : Nat, ¬ (57 ≤ k ∧ k < 88) → gI t.2 k j = gI D k j) 21 (by omega) ⟨rfl, CK_13 hK, fun j h => absurd h (by omega), fun j h => absurd h (by omega), fun _ _ _ => rfl⟩ ?_ |>.mono ?_)
  · rintro r ⟨x, D1⟩ hr ⟨rfl, g1, g2, g3, g4⟩
    show Ok (B_X3_roundsToRest_2 (cI (r : Int)) D1) _
    have g4' : ∀ k j : Nat, ¬ (57 ≤ k ∧ k < 88) → gI D1 k j = gI D k j := g4
    have hC1 : CP D1 2 T := hC.fr hp (fun k j hk => g4' _ j (by omega))
    unfold B_X3_roundsToRest_2
    by_cases c : r < 21
    · have st := rs_sk (T := T) r (by omega) g3
      have e1 : ((r : Int)).toNat = r := by omega
      rw [if_neg (show ¬ ((21 : Int32) ≤ cI (r : Int)) by rw [cL21, cI_le (by omega) (by omega) (by omega) (by omega)]; omega), allT_eq hp hC1 g1, e_bi, e_gd (by rw [cI_inT] <;> omega), e_let, cI_nat (by omega) (by omega), e1]
      have f2 : ∀ j : Nat, j ≤ r → gI (pI D1 73 r (cI (cdN (seqN T r) (T 0 4).toNat))) 73 j = cI (cdN (seqN T j) (T 0 4).toNat) ∧ 0 ≤ cdN (seqN T j) (T 0 4).toNat ∧ cdN (seqN T j) (T 0 4).toNat < 1000000 := fun j hj => by
        refine ⟨?_, (cb j).1, by have := (cb j).2; omega⟩
        by_cases y : j = r
        · subst y; exact gI_eq
        · rw [gI_fr (by omega)]; exact g2 j (by omega)
      have fr2 : ∀ k j : Nat, ¬ (57 ≤ k ∧ k < 88) → gI (pI D1 73 r (cI (cdN (seqN T r) (T 0 4).toNat))) k j = gI D k j := fun k j a => (gI_fr (by omega)).trans (g4' k j a)
      refine ok_biI ((seen_ok (c := fun j => cdN (seqN T j) (T 0 4).toNat) (by omega) f2).mono fun q hq9 => ?_)
      obtain ⟨y, D2⟩ := q
      obtain ⟨d0, hq9⟩ := hq9
      obtain rfl : D2 = pI D1 73 r (cI (cdN (seqN T r) (T 0 4).toNat)) := d0
      dsimp only
      rcases hq9 with ⟨y1, j, hj, ej⟩ | y0
      · obtain rfl : y = cI 1 := y1
        rw [if_neg (show ¬ (cI 1 = 0) by decide)]
        refine ok_someI (Or.inr ⟨_, rfl, _, fr2, Or.inl ⟨rfl, ?_⟩⟩)
        have es : seqN T j = seqN T r := by
          funext p
          by_cases c : (p : Int) < T 0 4
          · exact cd_i (sb j).1 (sb r).1 _ ej p (by omega)
          · rw [(sb j).2 p c, (sb r).2 p c]
        exact rs_on (seq_rep hj es g3) 21 0
      · obtain rfl : y = cI 0 := y0
        rw [if_pos (show cI 0 = 0 from rfl)]
        have hC2 : CP (pI D1 73 r (cI (cdN (seqN T r) (T 0 4).toNat))) 2 T := hC1.fr hp (fun k j hk => gI_fr (by omega))
        have K2 := CK.fr2 g1 (D' := pI D1 73 r (cI (cdN (seqN T r) (T 0 4).toNat))) (fun k j a b => gI_fr (by omega))
        refine ok_biI ((cround_ok hp hn hC2 K2 hl (sb r).1 (sb r).2).mono fun q k => ?_)
        obtain ⟨y, D3⟩ := q
        obtain ⟨k1, k2, k3⟩ := k
        have k1' : y = cI (if tnN T r then 1 else 0) := k1
        subst k1'
        have k2' : CK D3 (hwT T (seqN T (r + 1))) (wOn T) := k2
        have k3' : ∀ k j : Nat, k ≠ 58 → k ≠ 59 → k ≠ 63 → k ≠ 66 → ¬ (68 ≤ k ∧ k ≤ 72) → gI D3 k j = gI (pI D1 73 r (cI (cdN (seqN T r) (T 0 4).toNat))) k j := k3
        have fr3 : ∀ k j : Nat, ¬ (57 ≤ k ∧ k < 88) → gI D3 k j = gI D k j := fun k j a => (k3' k j (by omega) (by omega) (by omega) (by omega) (by omega)).trans (fr2 k j a)
        have st2 : rsF T r (21 - r) = if tnN T r then rsF T (r + 1) (20 - r) else (r : Int) := by
          rw [show 21 - r = (20 - r) + 1 by omega, rsF]
        dsimp only
        by_cases t : tnN T r = true
        · rw [t, if_pos rfl, if_pos (show cI 1 ≠ 0 by decide), e_let]
          refine ok_someI (Or.inl ⟨_, rfl, c, cI_add r 1, k2', fun j hj => ?_, fun j hj => ?_, fr3⟩)
          · exact (k3' _ _ (by omega) (by omega) (by omega) (by omega) (by omega)).trans (f2 j (by omega)).1
          · by_cases y : j = r
            · subst y; exact t
            · exact g3 j (by omega)
        · have tf : tnN T r = false := by simpa using t
          rw [tf, if_neg Bool.false_ne_true] at st2
          rw [tf, if_neg Bool.false_ne_true, if_neg (show ¬ (cI 0 ≠ 0) from fun z => z rfl)]
          exact ok_someI (Or.inr ⟨_, rfl, D3, fr3, Or.inr (Or.inl ⟨r, rfl, st.trans st2⟩)⟩)
    · obtain rfl : r = 21 := by omega
      have st := rs_sk (T := T) 21 (by omega) g3
      rw [if_pos (show ((21 : Int32) ≤ cI ((21 : Nat) : Int)) by decide)]
      exact ok_someI (Or.inr ⟨_, rfl, D1, g4, Or.inr (Or.inr ⟨rfl, st⟩)⟩)
  · rintro q ⟨D', f, ⟨rfl, e⟩ | ⟨r, rfl, e⟩ | ⟨rfl, e⟩⟩
    · rw [e]; exact ok_someI ⟨rfl, f⟩
    · rw [e]; exact ok_someI ⟨rfl, f⟩
    · rw [e]; exact ok_someI ⟨rfl, f⟩
end RE2
