/-! a town with plants otherwise; one that nobody smells changes nothing -/
section HOW
def hwT (T : aT) (H : Nat → Int) : aT := fun k j => if k = 13 then H j else T k j
def valN (T : aT) (g : Nat) (H : Nat → Int) : Int := wtN (hwT T H) g 5
theorem hw_13 {T : aT} {H : Nat → Int} {p : Nat} : hwT T H 13 p = H p := rfl
theorem hw_o {T : aT} {H : Nat → Int} {k : Nat} (h : k ≠ 13) : hwT T H k = T k := by
  funext j
  unfold hwT
  rw [if_neg h]
theorem hw_scn {T : aT} {H : Nat → Int} : scn T (hwT T H) := ⟨fun j _ => by rw [hw_o (by omega)], fun k a b => hw_o (by omega), hw_o (by omega), hw_o (by omega), hw_o (by omega), hw_o (by omega)⟩
theorem hw_ok {T : aT} {H : Nat → Int} (h : TOKs T) (hH : ∀ p : Nat, (p : Int) < T 0 4 → 0 ≤ H p ∧ H p ≤ 2) : TOKs (hwT T H) := by
  obtain ⟨a1, a2, a3, a4, a5, a6, a7, a8⟩ := h
  unfold TOKs
  simp only [hw_o (T := T) (H := H) (show (0 : Nat) ≠ 13 by omega), hw_o (T := T) (H := H) (show (1 : Nat) ≠ 13 by omega), hw_o (T := T) (H := H) (show (2 : Nat) ≠ 13 by omega), hw_o (T := T) (H := H) (show (3 : Nat) ≠ 13 by omega), hw_o (T := T) (H := H) (show (4 : Nat) ≠ 13 by omega), hw_o (T := T) (H := H) (show (5 : Nat) ≠ 13 by omega), hw_o (T := T) (H := H) (show (6 : Nat) ≠ 13 by omega), hw_o (T := T) (H := H) (show (7 : Nat) ≠ 13 by omega), hw_o (T := T) (H := H) (show (8 : Nat) ≠ 13 by omega), hw_o (T := T) (H := H) (show (9 : Nat) ≠ 13 by omega), hw_o (T := T) (H := H) (show (10 : Nat) ≠ 13 by omega), hw_o (T := T) (H := H) (show (11 : Nat) ≠ 13 by omega), hw_o (T := T) (H := H) (show (12 : Nat) ≠ 13 by omega), hw_o (T := T) (H := H) (show (14 : Nat) ≠ 13 by omega), hw_o (T := T) (H := H) (show (15 : Nat) ≠ 13 by omega), hw_13]
  exact ⟨a1, a2, a3, fun p hp => ⟨(a4 p hp).1, (a4 p hp).2.1, (a4 p hp).2.2.1, (a4 p hp).2.2.2.1, (a4 p hp).2.2.2.2.1, (a4 p hp).2.2.2.2.2.1, hH p hp⟩, a5, a6, a7, a8⟩
theorem sc_nn {T : aT} {s m f t wk u w : Int} : 0 ≤ scN T s m f t wk u w := by
  unfold scN mxI
  split
  · split <;> omega
  · omega
/-- somebody smells plant p: at a gate, in its hour, by a wind that has weight, open or burning -/
def smE (T : aT) (p : Nat) : Prop := ∃ w i : Nat, w < 5 ∧ 0 < T 0 (10 + w) ∧ (i : Int) < T 0 5 ∧ (0 < frN T 1 w i p ∨ 0 < frN T 3 w i p)
theorem hw_sm {T : aT} {H : Nat → Int} {p i w : Nat} : smN (hwT T H) p (gtN T i) (hrN T i) w = if H p = 1 then 0 else if H p = 2 then frN T 3 w i p else frN T 1 w i p := by
  unfold smN
  rw [hw_13, hw_o (k := 8) (by omega), hw_o (k := 9) (by omega), hw_o (k := 15) (by omega), sc_cg hw_scn]
  by_cases s1 : H p = 1
  · rw [if_pos s1, if_pos s1]
  · rw [if_neg s1, if_neg s1]
    by_cases s2 : H p = 2
    · rw [if_pos s2, if_pos s2]; rfl
    · rw [if_neg s2, if_neg s2]; rfl
theorem val_irr {T : aT} {g p : Nat} {H : Nat → Int} {v : Int} (hT : TOKs T) (h : ¬ smE T p) : valN T g (upH H p v) = valN T g H := by
  have hq := hT.1
  unfold valN wtN
  rw [hw_o (k := 0) (by omega), hw_o (k := 0) (by omega)]
  refine sg_cg 5 (fun w hw => ?_)
  by_cases z : 0 < T 0 (10 + w)
  · have e : smG (hwT T (upH H p v)) w = smG (hwT T H) w := by
      funext d
      unfold smG smW smR
      rw [hw_o (k := 0) (by omega), hw_o (k := 0) (by omega), hw_o (k := 14) (by omega), hw_o (k := 14) (by omega), hw_o (k := 11) (by omega), hw_o (k := 11) (by omega)]
      by_cases c : (d : Int) < T 0 3
      · rw [if_pos c, if_pos c]
        refine sg_cg _ (fun i hi => ?_)
        have e1 : ∀ H : Nat → Int, hrN (hwT T H) i = hrN T i := fun H => rfl
        rw [e1, e1, mr_cg hw_scn, mr_cg hw_scn]
        have sm : ∀ q : Nat, q < (T 0 4).toNat → smN (hwT T (upH H p v)) q (T 11 (T 14 i).toNat) (hrN T i) w = smN (hwT T H) q (T 11 (T 14 i).toNat) (hrN T i) w := fun q hq' => by
          have f1 := hw_sm (T := T) (H := upH H p v) (p := q) (i := i) (w := w)
          have f2 := hw_sm (T := T) (H := H) (p := q) (i := i) (w := w)
          unfold gtN at f1 f2
          rw [f1, f2]
          by_cases y : q = p
          · subst y
            have n1 : frN T 1 w i q = 0 := by
              have a : ¬ 0 < frN T 1 w i q := fun b => h ⟨w, i, hw, z, by omega, Or.inl b⟩
              have b : 0 ≤ frN T 1 w i q := sc_nn
              omega
            have n3 : frN T 3 w i q = 0 := by
              have a : ¬ 0 < frN T 3 w i q := fun b => h ⟨w, i, hw, z, by omega, Or.inr b⟩
              have b : 0 ≤ frN T 3 w i q := sc_nn
              omega
            rw [n1, n3]
            simp only [ite_self]
          · rw [upH_o y]
        have r : rawN (hwT T (upH H p v)) (T 11 (T 14 i).toNat) (hrN T i) w = rawN (hwT T H) (T 11 (T 14 i).toNat) (hrN T i) w := by
          funext s
          unfold rawN acR
          rw [hw_o (k := 0) (by omega), hw_o (k := 0) (by omega), hw_o (k := 8) (by omega), hw_o (k := 8) (by omega)]
          exact sg_cg _ (fun q hq' => by dsimp only; rw [sm q hq'])
        have o : ownN (hwT T (upH H p v)) (T 11 (T 14 i).toNat) (hrN T i) w = ownN (hwT T H) (T 11 (T 14 i).toNat) (hrN T i) w := by
          funext s
          unfold ownN acO
          rw [hw_o (k := 0) (by omega), hw_o (k := 0) (by omega), hw_o (k := 8) (by omega), hw_o (k := 8) (by omega), hw_o (k := 10) (by omega), hw_o (k := 10) (by omega)]
          exact sg_cg _ (fun q hq' => by dsimp only; rw [sm q hq'])
        rw [r, o]
      · rw [if_neg c, if_neg c]
    rw [e]
  · rw [if_neg (fun y => z y.1), if_neg (fun y => z y.1)]
end HOW
