/-! rest: one round on both sides -/
section RND
def rnN (T : aT) (H : Nat → Int) : Nat → Bool × (Nat → Int)
  | 0 => (false, H)
  | g + 1 => if valN T g (rnN T H g).2 < (bsT T g (rnN T H g).2).1 then (true, (bsT T g (rnN T H g).2).2) else rnN T H g
theorem bs_in {T : aT} {g : Nat} {H : Nat → Int} (hp : TOKp T) (hT : TOKs T) (hH : ∀ p : Nat, 0 ≤ H p ∧ H p ≤ 2) : (∀ p : Nat, 0 ≤ (bsT T g H).2 p ∧ (bsT T g H).2 p ≤ 2) ∧ ∀ p : Nat, p ∉ mnA T g → (bsT T g H).2 p = H p := by
  have e : bsT T g H = (rwF (mcN T (mnA T g)) H).foldl (fsV (valN T g)) (-1, H) := red_eq hp hT
  have cw := mn_cw (g := g) hp (Nat.le_refl (T 0 4).toNat)
  have c3 : ∀ q : Nat × Nat, q ∈ mcN T (mnA T g) → q.2 ≤ 2 + 1 := fun q hq => by
    unfold mcN at hq
    obtain ⟨p, p1, p2⟩ := List.mem_map.mp hq
    rw [← p2]
    exact (cw p p1).2
  rw [e]
  have key : ∀ (L : List (Nat → Int)) (st : Int × (Nat → Int)), (∀ X : Nat → Int, X ∈ L → X ∈ rwF (mcN T (mnA T g)) H) → ((∀ p : Nat, 0 ≤ st.2 p ∧ st.2 p ≤ 2) ∧ ∀ p : Nat, p ∉ mnA T g → st.2 p = H p) → (∀ p : Nat, 0 ≤ (L.foldl (fsV (valN T g)) st).2 p ∧ (L.foldl (fsV (valN T g)) st).2 p ≤ 2) ∧ ∀ p : Nat, p ∉ mnA T g → (L.foldl (fsV (valN T g)) st).2 p = H p := by
    intro L
    induction L with
    | nil => intro st _ h; exact h
    | cons X L ih =>
      intro st hin h
      refine ih (fsV (valN T g) st X) (fun Y hY => hin Y (by simp [hY])) ?_
      unfold fsV
      split
      · have k := rw_bd (B := 2) _ H X c3 hH (hin X (by simp))
        refine ⟨k.1, fun p hp => k.2 p (fun q hq z => hp ?_)⟩
        unfold mcN at hq
        obtain ⟨p', p1, p2⟩ := List.mem_map.mp hq
        have e : p' = p := by rw [← z, ← p2]
        rw [← e]
        exact p1
      · exact h
  exact key _ _ (fun X h => h) ⟨hH, fun p _ => rfl⟩
theorem rn_b {T : aT} {H : Nat → Int} (hp : TOKp T) (hT : TOKs T) (hH : ∀ p : Nat, 0 ≤ H p ∧ H p ≤ 2) (h0 : ∀ p : Nat, ¬ (p : Int) < T 0 4 → H p = 0) : ∀ g : Nat, (∀ p : Nat, 0 ≤ (rnN T H g).2 p ∧ (rnN T H g).2 p ≤ 2) ∧ ∀ p : Nat, ¬ (p : Int) < T 0 4 → (rnN T H g).2 p = 0
  | 0 => ⟨hH, h0⟩
  | g + 1 => by
    have a := rn_b hp hT hH h0 g
    have b := bs_in (g := g) hp hT a.1
    rw [rnN]
    split
    · refine ⟨b.1, fun p hP => ?_⟩
      show (bsT T g (rnN T H g).2).2 p = 0
      rw [b.2 p (fun h => hP (by have := (mn_mem h).1; omega))]
      exact a.2 p hP
    · exact a
theorem put_ok {D : aD} {T : aT} {H X Y : Nat → Int} {l : List Nat} {b : Bool} {v1 v2 : Int32} (hl : l.length ≤ 6) (hin : ∀ p : Nat, p ∈ l → (p : Int) < T 0 4) (hP : T 0 4 ≤ 12) (hK : CK D (hwT T X) (wOn T)) (hL : lsD D T H l) (hXY : ∀ p : Nat, p ∉ l → X p = Y p) (hv : ∀ i p : Nat, l[i]? = some p → (if b then gI D 72 i else gI D 71 i) = cI (Y p)) :
    Ok (aLp (fun s : Int32 × aD => B_X3_turnRound_45 v1 v2 (cI (if b then 1 else 0)) s.1 s.2) (cI 0, D)) (fun D' => CK D' (hwT T Y) (wOn T) ∧ ∀ k j : Nat, k ≠ 63 → gI D' k j = gI D k j) := by
  refine ok_lp (fun i t => t.1 = cI (i : Int) ∧ (∃ X : Nat → Int, CK t.2 (hwT T X) (wOn T) ∧ (∀ p : Nat, p ∉ l → X p = Y p) ∧ ∀ j p : Nat, j < i → l[j]? = some p → X p = Y p) ∧ ∀ k j : Nat, k ≠ 63 → gI t.2 k j = gI D k j) l.length (by omega) ⟨rfl, ⟨X, hK, hXY, fun j p h => absurd h (by omega)⟩, fun _ _ _ => rfl⟩ ?_
  rintro i ⟨x, D1⟩ hi ⟨rfl, ⟨X, g1, g2, g3⟩, g4⟩
  show Ok (B_X3_turnRound_45 v1 v2 (cI (if b then 1 else 0)) (cI (i : Int)) D1) _
  have g4' : ∀ k j : Nat, k ≠ 63 → gI D1 k j = gI D k j := g4
  have c68 : gI D1 68 2 = cI (l.length : Int) := (g4' _ _ (by omega)).trans hL.1.1
  unfold B_X3_turnRound_45
  by_cases c : i < l.length
  · have gl := List.getElem?_eq_getElem c
    generalize l[i] = p at gl
    have pP := hin p (List.mem_of_getElem? gl)
    have e1 : ((i : Int)).toNat = i := by omega
    have e2 : ((p : Int)).toNat = p := by omega
    have c69 : gI D1 69 i = cI (p : Int) := (g4' _ _ (by omega)).trans (hL.1.2 i p gl)
    have v := hv i p gl
    have nx : ∃ Z : Nat → Int, CK (pI D1 63 p (cI (Y p))) (hwT T Z) (wOn T) ∧ (∀ p : Nat, p ∉ l → Z p = Y p) ∧ ∀ j p : Nat, j < i + 1 → l[j]? = some p → Z p = Y p := by
      refine ⟨upH X p (Y p), CK_up g1, fun q hq => ?_, fun j q hj h => ?_⟩
      · by_cases y : q = p
        · subst y; exact upH_eq
        · rw [upH_o y]; exact g2 q hq
      · by_cases y : q = p
        · subst y; exact upH_eq
        · rw [upH_o y]
          by_cases z : j = i
          · subst z
            rw [gl] at h
            cases h
            exact absurd rfl y
          · exact g3 j q (by omega) h
    cases b with
    | true =>
      have c72 : gI D1 72 i = cI (Y p) := (g4' _ _ (by omega)).trans v
      rw [if_pos rfl]
      simp (disch := omega) only [e_bi, e_bind, e_let, e_tr, e_tl, cLm1, cLm2, cL0, cL1, cL2, cL3, cL4, cL5, cL6, cL7, cL8, cL9, cL10, cL11, cL12, cL13, cL14, cL15, cL16, cL17, cL18, cL19, cL20, cL21, cL22, cL23, cL24, cL25, cL29, cL30, cL31, cL32, cL36, cL48, cL50, cL51, cL52, cL64, cL99, cL100, cL700, cL1000, cL9999, cL10000, cI_add, cI_sub, cI_mul, cI_neg, cI_lt, cI_le, cI_eq, ne_eq, ifp, ifn, bI_p, bI_n, aZ_0, aZ_1, aZ_b, e_gdt, e_ifT, e_ifF, not_true_eq_false, not_false_eq_true, e_gd, cI_inT, cI_nat, e1, e2, c68, c69, c72]
      exact ok_someI (Or.inl ⟨_, rfl, c, rfl, nx, fun k j a => (gI_fr (by omega)).trans (g4' k j a)⟩)
    | false =>
      have c71 : gI D1 71 i = cI (Y p) := (g4' _ _ (by omega)).trans v
      rw [if_neg Bool.false_ne_true]
      simp (disch := omega) only [e_bi, e_bind, e_let, e_tr, e_tl, cLm1, cLm2, cL0, cL1, cL2, cL3, cL4, cL5, cL6, cL7, cL8, cL9, cL10, cL11, cL12, cL13, cL14, cL15, cL16, cL17, cL18, cL19, cL20, cL21, cL22, cL23, cL24, cL25, cL29, cL30, cL31, cL32, cL36, cL48, cL50, cL51, cL52, cL64, cL99, cL100, cL700, cL1000, cL9999, cL10000, cI_add, cI_sub, cI_mul, cI_neg, cI_lt, cI_le, cI_eq, ne_eq, ifp, ifn, bI_p, bI_n, aZ_0, aZ_1, aZ_b, e_gdt, e_ifT, e_ifF, not_true_eq_false, not_false_eq_true, e_gd, cI_inT, cI_nat, e1, e2, c68, c69, c71]
      exact ok_someI (Or.inl ⟨_, rfl, c, rfl, nx, fun k j a => (gI_fr (by omega)).trans (g4' k j a)⟩)
  · obtain rfl : i = l.length := by omega
    rw [c68, if_pos (show cI (l.length : Int) ≤ cI (l.length : Int) by rw [cI_le (by omega) (by omega) (by omega) (by omega)]; omega)]
    have e : X = Y := by
      funext p
      by_cases h : p ∈ l
      · obtain ⟨j, hj⟩ := List.getElem?_of_mem h
        exact g3 j p (List.getElem?_eq_some_iff.mp hj).1 hj
      · exact g2 p h
    rw [e] at g1
    exact ok_someI (Or.inr ⟨_, rfl, g1, g4⟩)
end RND
