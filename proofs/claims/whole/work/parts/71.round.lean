/-! rest: the reference's round -/
section RN3
def frR (T : aT) (D D' : aD) : Prop := (∀ k j : Nat, ¬ (108 ≤ k ∧ k ≤ 114) → ¬ (k = 106 ∧ (j : Int) < T 0 4) → ¬ (k = 88 ∧ (j = 41 ∨ j = 42)) → gI D' k j = gI D k j) ∧ D'.2 = D.2
theorem bs_le {T : aT} {g : Nat} {H : Nat → Int} (h : ∀ w : Nat, w < 5 → 0 ≤ T 0 (10 + w) ∧ T 0 (10 + w) ≤ 99) : (bsT T g H).1 ≤ 495 := by
  have ab := all_b h
  have key : ∀ (L : List (Nat → Int)) (st : Int × (Nat → Int)), st.1 ≤ 495 → (L.foldl (fsV (valN T g)) st).1 ≤ 495 := by
    intro L
    induction L with
    | nil => intro st h; exact h
    | cons Y L ih =>
      intro st h'
      refine ih (fsV (valN T g) st Y) ?_
      unfold fsV
      split
      · have := (val_b (g := g) (H := Y) h).2
        dsimp only
        omega
      · exact h'
  exact key _ _ (by show (-1 : Int) ≤ 495; omega)
theorem mput_ok {D : aD} {T : aT} {X Y : Nat → Int} {l : List Nat} {v1 v2 : Int32} (hl : l.length ≤ 6) (hin : ∀ p : Nat, p ∈ l → (p : Int) < T 0 4) (hP : T 0 4 ≤ 12) (hM : MS D (hwT T X)) (hL : mnD D 88 41 113 l) (hXY : ∀ p : Nat, p ∉ l → X p = Y p) (hv : ∀ i p : Nat, l[i]? = some p → gI D 114 i = cI (Y p)) :
    Ok (aLp (fun s : Int32 × aD => B_X12_turnRound_42 v1 v2 s.1 s.2) (cI 0, D)) (fun D' => MS D' (hwT T Y) ∧ frR T D D') := by
  refine ok_lp (fun i t => t.1 = cI (i : Int) ∧ (∃ X : Nat → Int, MS t.2 (hwT T X) ∧ (∀ p : Nat, p ∉ l → X p = Y p) ∧ ∀ j p : Nat, j < i → l[j]? = some p → X p = Y p) ∧ (∀ k j : Nat, ¬ (k = 106 ∧ (j : Int) < T 0 4) → gI t.2 k j = gI D k j) ∧ t.2.2 = D.2) l.length (by omega) ⟨rfl, ⟨X, hM, hXY, fun j p h => absurd h (by omega)⟩, fun _ _ _ => rfl, rfl⟩ ?_
  rintro i ⟨x, D1⟩ hi ⟨rfl, ⟨X, g1, g2, g3⟩, g4, g5⟩
  show Ok (B_X12_turnRound_42 v1 v2 (cI (i : Int)) D1) _
  have g4' : ∀ k j : Nat, ¬ (k = 106 ∧ (j : Int) < T 0 4) → gI D1 k j = gI D k j := g4
  have c41 : gI D1 88 41 = cI (l.length : Int) := (g4' _ _ (by omega)).trans hL.1
  unfold B_X12_turnRound_42
  by_cases c : i < l.length
  · have gl := List.getElem?_eq_getElem c
    generalize l[i] = p at gl
    have pP := hin p (List.mem_of_getElem? gl)
    have e1 : ((i : Int)).toNat = i := by omega
    have e2 : ((p : Int)).toNat = p := by omega
    have c113 : gI D1 113 i = cI (p : Int) := (g4' _ _ (by omega)).trans (hL.2 i p gl)
    have c114 : gI D1 114 i = cI (Y p) := (g4' _ _ (by omega)).trans (hv i p gl)
    have nx : ∃ Z : Nat → Int, MS (pI D1 106 p (cI (Y p))) (hwT T Z) ∧ (∀ p : Nat, p ∉ l → Z p = Y p) ∧ ∀ j p : Nat, j < i + 1 → l[j]? = some p → Z p = Y p := by
      refine ⟨upH X p (Y p), MS_up g1, fun q hq => ?_, fun j q hj h => ?_⟩
      · by_cases y : q = p
        · subst y; exact upH_eq
        · rw [upH_o y]; exact g2 q hq
      · by_cases y : q = p
        · subst y; exact upH_eq
        · rw [upH_o y]
          by_cases z : j = i
          · subst z
            rw [gl] at h
            cases h
            exact absurd rfl y
          · exact g3 j q (by omega) h
    simp (disch := omega) only [e_bi, e_bind, e_let, e_tr, e_tl, cLm1, cLm2, cL0, cL1, cL2, cL3, cL4, cL5, cL6, cL7, cL8, cL9, cL10, cL11, cL12, cL13, cL14, cL15, cL16, cL17, cL18, cL19, cL20, cL21, cL22, cL23, cL24, cL25, cL29, cL30, cL31, cL32, cL36, cL48, cL50, cL51, cL52, cL64, cL99, cL100, cL700, cL1000, cL9999, cL10000, cI_add, cI_sub, cI_mul, cI_neg, cI_lt, cI_le, cI_eq, ne_eq, ifp, ifn, bI_p, bI_n, aZ_0, aZ_1, aZ_b, e_gdt, e_ifT, e_ifF, not_true_eq_false, not_false_eq_true, e_gd, cI_inT, cI_nat, e1, e2, c41, c113, c114]
    exact ok_someI (Or.inl ⟨_, rfl, c, rfl, nx, fun k j a => (gI_fr (by omega)).trans (g4' k j a), g5⟩)
  · obtain rfl : i = l.length := by omega
    rw [c41, if_pos (show cI (l.length : Int) ≤ cI (l.length : Int) by rw [cI_le (by omega) (by omega) (by omega) (by omega)]; omega)]
    have e : X = Y := by
      funext p
      by_cases h : p ∈ l
      · obtain ⟨j, hj⟩ := List.getElem?_of_mem h
        exact g3 j p (List.getElem?_eq_some_iff.mp hj).1 hj
      · exact g2 p h
    rw [e] at g1
    exact ok_someI (Or.inr ⟨_, rfl, g1, fun k j a b d => g4' k j b, g5⟩)
theorem mround_ok {D : aD} {T : aT} {H : Nat → Int} (hp : TOKp T) (hn : TOKn T) (hM : MS D (hwT T H)) (hl : ∀ g : Nat, (g : Int) < T 0 3 → (mnA T g).length ≤ 6) (hH : ∀ p : Nat, 0 ≤ H p ∧ H p ≤ 2) (h0 : ∀ p : Nat, ¬ (p : Int) < T 0 4 → H p = 0) :
    Ok (f_X12_turnRound D) (fun r => r.1 = cI (if (rdN T H).1 then 1 else 0) ∧ MS r.2 (hwT T (rdN T H).2) ∧ frR T D r.2) := by
  have hq := hp.1
  have hT := TOKs.of hp hn
  unfold f_X12_turnRound J_X12_turnRound_4
  refine ok_bindI (ok_lp (fun g t => t.1 = cI (if (rnN T H g).1 then 1 else 0) ∧ t.2.1 = cI (g : Int) ∧ MS t.2.2 (hwT T (rnN T H g).2) ∧ frR T D t.2.2) (T 0 3).toNat (by omega) ⟨rfl, rfl, hM, fun _ _ _ _ _ => rfl, rfl⟩ ?_)
  rintro g ⟨x1, x2, D1⟩ hg ⟨q1, q2, q3, q4⟩
  obtain rfl : x1 = _ := q1
  obtain rfl : x2 = cI (g : Int) := q2
  have q4' : frR T D D1 := q4
  have q3' : MS D1 (hwT T (rnN T H g).2) := q3
  have m3 : gI D1 91 3 = cI (T 0 3) := by
    have k := q3'.1 3 (by omega) (by omega)
    rw [hw_o (by omega)] at k
    exact k
  have rb := (rn_b hp hT hH h0 g).1
  show Ok (B_X12_turnRound_4 (cI (if (rnN T H g).1 then 1 else 0)) (cI (g : Int)) D1) _
  by_cases c : (g : Int) < T 0 3
  · have st : rnN T H (g + 1) = if valN T g (rnN T H g).2 < (bsT T g (rnN T H g).2).1 then (true, (bsT T g (rnN T H g).2).2) else rnN T H g := rfl
    have bi := bs_in (g := g) hp hT rb
    generalize rnN T H g = z at q3' rb st bi
    obtain ⟨b0, X⟩ := z
    have st' : rnN T H (g + 1) = if valN T g X < (bsT T g X).1 then (true, (bsT T g X).2) else (b0, X) := st
    have bi' : ∀ p : Nat, p ∉ mnA T g → (bsT T g X).2 p = X p := bi.2
    have rb' : ∀ p : Nat, 0 ≤ X p ∧ X p ≤ 2 := rb
    have K1 : MS D1 (hwT T X) := q3'
    clear st bi rb q3'
    have ab := all_b hp.2.1
    have vb := val_b (g := g) (H := X) hp.2.1
    have nn := bs_nn (g := g) (H := X) hp hT
    have bl := bs_le (g := g) (H := X) hp.2.1
    have lg := hl g c
    have len := mn_len (T := T) (g := g) (T 0 4).toNat
    have hin : ∀ p : Nat, p ∈ mnA T g → (p : Int) < T 0 4 := fun p h => by have := (mn_mem h).1; omega
    suffices hsu : ∀ Q : ((Int32 × Int32 × aD) ⊕ (Int32 × aD)) → Prop, (∀ D5 : aD, MS D5 (hwT T (rnN T H (g + 1)).2) → frR T D D5 → Q (.inl (cI (if (rnN T H (g + 1)).1 then 1 else 0), cI ((g : Int) + 1), D5))) → Ok (B_X12_turnRound_4 (cI (if b0 then 1 else 0)) (cI (g : Int)) D1) Q from hsu _ (fun D5 a b => Or.inl ⟨_, rfl, by omega, rfl, rfl, a, b⟩)
    intro Q hQ
    unfold B_X12_turnRound_4
    rw [e_gd (by decide), show gI D1 91 (3 : Int32).toNatClampNeg = cI (T 0 3) from m3, if_neg (show ¬ (cI (T 0 3) ≤ cI (g : Int)) by rw [cI_le (by omega) (by omega) (by omega) (by omega)]; omega)]
    refine ok_biI (Ok.mono (mwon_ok (g := g) (hw_ok hT (fun p _ => rb' p)) K1 (by rw [hw_o (by omega)]; exact c)) fun r hr => ?_)
    obtain ⟨y, D2⟩ := r
    obtain ⟨v1, v2, v3⟩ := hr
    obtain rfl : y = cI (valN T g X) := v1
    have v2' : ∀ k j : Nat, ¬ (108 ≤ k ∧ k ≤ 112) → gI D2 k j = gI D1 k j := v2
    have v3' : D2.2 = D1.2 := v3
    have K2 : MS D2 (hwT T X) := K1.fr (fun k j a => v2' k j (by omega)) (fun j a b => v2' _ j (by omega))
    refine ok_biI ((tellBest_ok (g := g) (H := X) hT (by omega) K2 c rb').mono fun r hr => ?_)
    obtain ⟨y, D3⟩ := r
    obtain ⟨w1, w2, w3, w4⟩ := hr
    have w2' : MS D3 (hwT T X) := w2
    have w3' : ∀ k j : Nat, ¬ (108 ≤ k ∧ k ≤ 114) → ¬ (k = 106 ∧ (j : Int) < T 0 4) → ¬ (k = 88 ∧ (j = 41 ∨ j = 42)) → gI D3 k j = gI D2 k j := w3
    have w4' : D3.2 = D2.2 := w4
    have f3 : frR T D D3 := ⟨fun k j a b d => (w3' k j a b d).trans ((v2' k j (by omega)).trans (q4'.1 k j a b d)), w4'.trans (v3'.trans q4'.2)⟩
    rcases w1 with ⟨u, -⟩ | ⟨-, -, u1, u2⟩
    · omega
    · have u1' : gI D3 88 42 = cI (bsT T g X).1 := u1.1
      dsimp only
      rw [u1']
      by_cases z : valN T g X < (bsT T g X).1
      · rw [if_pos z] at st'
        rw [if_pos (show cI (valN T g X) < cI (bsT T g X).1 by rw [cI_lt (by omega) (by omega) (by omega) (by omega)]; exact z)]
        unfold J_X12_turnRound_42
        refine ok_bindI (Ok.mono (mput_ok (v1 := 1) (v2 := cI (g : Int)) (Y := (bsT T g X).2) lg hin (by omega) w2' u2 (fun p hp' => (bi' p hp').symm) (u1.2 (by omega))) fun D4 q => ?_)
        obtain ⟨k1, k2⟩ := q
        unfold J_X12_turnRound_76
        rw [st'] at hQ
        rw [e_let, show cI (g : Int) + 1 = cI ((g : Int) + 1) from cI_add g 1]
        exact ok_someI (hQ D4 k1 ⟨fun k j a b d => (k2.1 k j a b d).trans (f3.1 k j a b d), k2.2.trans f3.2⟩)
      · rw [if_neg z] at st'
        rw [if_neg (show ¬ (cI (valN T g X) < cI (bsT T g X).1) by rw [cI_lt (by omega) (by omega) (by omega) (by omega)]; exact z)]
        unfold J_X12_turnRound_76
        rw [st'] at hQ
        rw [e_let, show cI (g : Int) + 1 = cI ((g : Int) + 1) from cI_add g 1]
        exact ok_someI (hQ D3 w2' f3)
  · obtain rfl : g = (T 0 3).toNat := by omega
    unfold B_X12_turnRound_4
    rw [e_gd (by decide), show gI D1 91 (3 : Int32).toNatClampNeg = cI (T 0 3) from m3, if_pos (show cI (T 0 3) ≤ cI ((T 0 3).toNat : Int) by rw [cI_le (by omega) (by omega) (by omega) (by omega)]; omega)]
    refine ok_someI (Or.inr ⟨_, rfl, ?_⟩)
    unfold J_X12_turnRound_82
    dsimp only
    rw [e_gd (show aZ (cI (if (rnN T H (T 0 3).toNat).1 then 1 else 0)) = true by cases (rnN T H (T 0 3).toNat).1 <;> decide)]
    exact ok_someI ⟨rfl, q3, q4⟩
end RN3
