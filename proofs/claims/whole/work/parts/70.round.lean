/-! rest: one round on both sides, whole -/
section RN2
def rdN (T : aT) (H : Nat → Int) : Bool × (Nat → Int) := rnN T H (T 0 3).toNat
theorem tu_eq {T : aT} {g : Nat} {w : Int} {X : Nat → Int} (hp : TOKp T) (hT : TOKs T) (h : -1 ≤ w) : tuF T g w X = if w < (bsT T g X).1 then bsT T g X else (w, X) := by
  have e : bsT T g X = (rwF (mcN T (mnA T g)) X).foldl (fsV (valN T g)) (-1, X) := red_eq hp hT
  rw [e]
  exact fv_fl _ (-1, X) h
theorem cround_ok {D : aD} {T : aT} {H : Nat → Int} (hp : TOKp T) (hn : TOKn T) (hC : CP D 2 T) (hK : CK D (hwT T H) (wOn T)) (hl : ∀ g : Nat, (g : Int) < T 0 3 → (mnA T g).length ≤ 6) (hH : ∀ p : Nat, 0 ≤ H p ∧ H p ≤ 2) (h0 : ∀ p : Nat, ¬ (p : Int) < T 0 4 → H p = 0) :
    Ok (f_X3_turnRound D) (fun r => r.1 = cI (if (rdN T H).1 then 1 else 0) ∧ CK r.2 (hwT T (rdN T H).2) (wOn T) ∧ ∀ k j : Nat, k ≠ 58 → k ≠ 59 → k ≠ 63 → k ≠ 66 → ¬ (68 ≤ k ∧ k ≤ 72) → gI r.2 k j = gI D k j) := by
  have hq := hp.1
  have hT := TOKs.of hp hn
  unfold f_X3_turnRound J_X3_turnRound_4
  refine ok_bindI (ok_lp (fun g t => t.1 = cI (if (rnN T H g).1 then 1 else 0) ∧ t.2.1 = cI (g : Int) ∧ CK t.2.2 (hwT T (rnN T H g).2) (wOn T) ∧ ∀ k j : Nat, k ≠ 58 → k ≠ 59 → k ≠ 63 → k ≠ 66 → ¬ (68 ≤ k ∧ k ≤ 72) → gI t.2.2 k j = gI D k j) (T 0 3).toNat (by omega) ⟨rfl, rfl, hK, fun _ _ _ _ _ _ _ => rfl⟩ ?_)
  rintro g ⟨x1, x2, D1⟩ hg ⟨q1, q2, q3, q4⟩
  obtain rfl : x1 = _ := q1
  obtain rfl : x2 = cI (g : Int) := q2
  have q4' : ∀ k j : Nat, k ≠ 58 → k ≠ 59 → k ≠ 63 → k ≠ 66 → ¬ (68 ≤ k ∧ k ≤ 72) → gI D1 k j = gI D k j := q4
  have q3' : CK D1 (hwT T (rnN T H g).2) (wOn T) := q3
  have hC1 : CP D1 2 T := hC.fr hp (fun k j hk => q4' _ j (by omega) (by omega) (by omega) (by omega) (by omega))
  have pg := (CP.two hC1).2.2.1 3 (by omega) (by omega)
  have rb := (rn_b hp hT hH h0 g).1
  show Ok (B_X3_turnRound_4 (cI (if (rnN T H g).1 then 1 else 0)) (cI (g : Int)) D1) _
  by_cases c : (g : Int) < T 0 3
  · have st : rnN T H (g + 1) = if valN T g (rnN T H g).2 < (bsT T g (rnN T H g).2).1 then (true, (bsT T g (rnN T H g).2).2) else rnN T H g := rfl
    have bi := bs_in (g := g) hp hT rb
    generalize rnN T H g = z at q3' rb st bi
    obtain ⟨b0, X⟩ := z
    have st' : rnN T H (g + 1) = if valN T g X < (bsT T g X).1 then (true, (bsT T g X).2) else (b0, X) := st
    have bi' : ∀ p : Nat, p ∉ mnA T g → (bsT T g X).2 p = X p := bi.2
    have rb' : ∀ p : Nat, 0 ≤ X p ∧ X p ≤ 2 := rb
    have K1 : CK D1 (hwT T X) (wOn T) := q3'
    clear st bi rb q3'
    have ab := all_b hp.2.1
    have vb := val_b (g := g) (H := X) hp.2.1
    have lg := hl g c
    have tu := tu_eq (g := g) (w := valN T g X) (X := X) hp hT (by omega)
    have len := mn_len (T := T) (g := g) (T 0 4).toNat
    have hin : ∀ p : Nat, p ∈ mnA T g → (p : Int) < T 0 4 := fun p h => by have := (mn_mem h).1; omega
    suffices hsu : ∀ Q : ((Int32 × Int32 × aD) ⊕ (Int32 × aD)) → Prop, (∀ D5 : aD, CK D5 (hwT T (rnN T H (g + 1)).2) (wOn T) → (∀ k j : Nat, k ≠ 58 → k ≠ 59 → k ≠ 63 → k ≠ 66 → ¬ (68 ≤ k ∧ k ≤ 72) → gI D5 k j = gI D k j) → Q (.inl (cI (if (rnN T H (g + 1)).1 then 1 else 0), cI ((g : Int) + 1), D5))) → Ok (B_X3_turnRound_4 (cI (if b0 then 1 else 0)) (cI (g : Int)) D1) Q from hsu _ (fun D5 a b => Or.inl ⟨_, rfl, by omega, rfl, rfl, a, b⟩)
    intro Q hQ
    unfold B_X3_turnRound_4
    rw [pg, if_neg (show ¬ (cI (T 0 3) ≤ cI (g : Int)) by rw [cI_le (by omega) (by omega) (by omega) (by omega)]; omega)]
    rw [cLm1]
    refine ok_biI (Ok.mono (won_ok (g := g) (fl := -1) hp hC1 (hw_ok hT (fun p _ => rb' p)) hw_scn K1 (fun w h => h) c (by omega) (by omega) (show T 0 4 ≤ 12 by have := hp.1; omega)) fun r hr => ?_)
    obtain ⟨y, D2⟩ := r
    obtain ⟨⟨v, v1, v2, v3, v4⟩, v5⟩ := hr
    obtain rfl : y = cI v := v1
    have ve : v = valN T g X := v2 (show (-1 : Int) < valN T g X by omega)
    subst ve
    have v5' : ∀ k j : Nat, k ≠ 58 → k ≠ 59 → k ≠ 66 → gI D2 k j = gI D1 k j := v5
    have hC2 : CP D2 2 T := hC1.fr hp (fun k j hk => v5' _ j (by omega) (by omega) (by omega))
    have K2 := CK.fr2 K1 (D' := D2) (fun k j a b => v5' k j (by omega) (by omega) (by omega))
    refine ok_biI ((tune_ok (g := g) (fl := valN T g X) hp hn hC2 K2 c lg rb' (by omega) (by omega)).mono fun r hr => ?_)
    obtain ⟨y, D3⟩ := r
    obtain ⟨w1, w2, w3, ⟨Z, w4, w5⟩, w6⟩ := hr
    obtain rfl : y = _ := w1
    have w2' : valN T g X < (tuF T g (valN T g X) X).1 → ∀ i p : Nat, (mnA T g)[i]? = some p → gI D3 72 i = cI ((tuF T g (valN T g X) X).2 p) := w2
    have w3' : lsD D3 T X (mnA T g) := w3
    have w4' : CK D3 (hwT T Z) (wOn T) := w4
    have w6' : ∀ k j : Nat, k ≠ 58 → k ≠ 59 → k ≠ 63 → k ≠ 66 → ¬ (68 ≤ k ∧ k ≤ 72) → gI D3 k j = gI D2 k j := w6
    have fr3 : ∀ k j : Nat, k ≠ 58 → k ≠ 59 → k ≠ 63 → k ≠ 66 → ¬ (68 ≤ k ∧ k ≤ 72) → gI D3 k j = gI D k j := fun k j a b c d e => (w6' k j a b c d e).trans ((v5' k j a b d).trans (q4' k j a b c d e))
    dsimp only
    by_cases z : valN T g X < (bsT T g X).1
    · rw [if_pos z] at tu st'
      rw [tu] at w2' ⊢
      have bb : (bsT T g X).1 ≤ 495 := by
        have k := tune_ok (g := g) (fl := -1) hp hn hC2 K2 c lg rb' (by omega) (by omega)
        have e : bsT T g X = (rwF (mcN T (mnA T g)) X).foldl (fsV (valN T g)) (-1, X) := red_eq hp hT
        rw [e]
        have key : ∀ (L : List (Nat → Int)) (st : Int × (Nat → Int)), st.1 ≤ 495 → (L.foldl (fsV (valN T g)) st).1 ≤ 495 := by
          intro L
          induction L with
          | nil => intro st h; exact h
          | cons Y L ih =>
            intro st h
            refine ih (fsV (valN T g) st Y) ?_
            unfold fsV
            split
            · have := (val_b (g := g) (H := Y) hp.2.1).2
              dsimp only
              omega
            · exact h
        exact key _ _ (by show (-1 : Int) ≤ 495; omega)
      rw [if_neg (show ¬ (cI (bsT T g X).1 ≤ cI (valN T g X)) by rw [cI_le (by omega) (by omega) (by omega) (by omega)]; omega)]
      unfold J_X3_turnRound_40 J_X3_turnRound_45
      have pt := put_ok (b := true) (v1 := cI (if b0 then 1 else 0)) (v2 := cI (g : Int)) lg hin (by omega) w4' w3' (Y := (bsT T g X).2) (fun p hp' => (w5 p hp').trans (bi' p hp').symm) (fun i p h => w2' z i p h)
      refine ok_bindI (Ok.mono pt fun D4 q => ?_)
      obtain ⟨k1, k2⟩ := q
      unfold J_X3_turnRound_97
      rw [st'] at hQ
      rw [e_let, e_let, show cI (if b0 then 1 else 0) ||| 1 = cI 1 by cases b0 <;> decide, show cI (g : Int) + 1 = cI ((g : Int) + 1) from cI_add g 1]
      exact ok_someI (hQ D4 k1 (fun k j a b c d e => (k2 k j c).trans (fr3 k j a b c d e)))
    · rw [if_neg z] at tu st'
      rw [tu]
      rw [if_pos (show cI (valN T g X) ≤ cI (valN T g X) by rw [cI_le (by omega) (by omega) (by omega) (by omega)]; omega)]
      unfold J_X3_turnRound_40 J_X3_turnRound_45
      have pt := put_ok (b := false) (v1 := cI (if b0 then 1 else 0)) (v2 := cI (g : Int)) lg hin (by omega) w4' w3' (Y := X) w5 (fun i p h => (w3'.2 i p h).2)
      refine ok_bindI (Ok.mono pt fun D4 q => ?_)
      obtain ⟨k1, k2⟩ := q
      unfold J_X3_turnRound_97
      rw [st'] at hQ
      rw [e_let, e_let, show cI (if b0 then 1 else 0) ||| 0 = cI (if b0 then 1 else 0) by cases b0 <;> decide, show cI (g : Int) + 1 = cI ((g : Int) + 1) from cI_add g 1]
      exact ok_someI (hQ D4 k1 (fun k j a b c d e => (k2 k j c).trans (fr3 k j a b c d e)))
  · obtain rfl : g = (T 0 3).toNat := by omega
    unfold B_X3_turnRound_4
    rw [pg, if_pos (show cI (T 0 3) ≤ cI ((T 0 3).toNat : Int) by rw [cI_le (by omega) (by omega) (by omega) (by omega)]; omega)]
    refine ok_someI (Or.inr ⟨_, rfl, ?_⟩)
    unfold J_X3_turnRound_108
    dsimp only
    rw [e_gd (show aZ (cI (if (rnN T H (T 0 3).toNat).1 then 1 else 0)) = true by cases (rnN T H (T 0 3).toNat).1 <;> decide)]
    exact ok_someI ⟨rfl, q3, q4⟩
end RN2
