/-! town: a line, whichever it is, on the class's side -/
section LNE
def hdX (B : Nat → Int) (N : Nat) (x : aX) : Nat := if isWb B N 5 x = true then 5 else if isWb B N 6 x = true then 6 else if isWb B N 7 x = true then 7 else if isWb B N 8 x = true then 8 else if isWb B N 9 x = true then 9 else if isWb B N 11 x = true then 11 else if isWb B N 12 x = true then 12 else if isWb B N 0 x = true then 0 else if isWb B N 1 x = true then 1 else if isWb B N 2 x = true then 2 else if isWb B N 3 x = true then 3 else if isWb B N 4 x = true then 4 else 13
def lnX (B : Nat → Int) (N w q : Nat) (x : aX) (T : aT) : Nat × aX × aT := match w with
  | 5 => (q ||| 32, twX B N (if q = 0 then x else flX 4 x) T)
  | 6 => (q ||| 64, soX B N 0 x T)
  | 7 => (q ||| 64, soX B N 1 x T)
  | 8 => (q ||| 64, gdX B N x T)
  | 9 => (q ||| 64, plX B N x T)
  | 11 => (q ||| 64, gtX B N x T)
  | 12 => (q ||| 64, mkX B N x T)
  | 0 => (q ||| 1, stX B N 20 6 (onX q 1 x) T)
  | 1 => (q ||| 2, stX B N 9 7 (onX q 2 x) T)
  | 2 => (q ||| 4, stX B N 14 8 (onX q 4 x) T)
  | 3 => (q ||| 8, stX B N 99 9 (onX q 8 x) T)
  | 4 => (q ||| 16, wiX B N (onX q 16 x) T)
  | _ => (q ||| 64, flX 1 x, T)
theorem q64 : ∀ q : Nat, q < 128 → (q ||| 64) % 32 = q % 32 ∧ (q ||| 32) % 32 = q % 32 := by decide +kernel
theorem RD.q {D : aD} {B : Nat → Int} {N q q' : Nat} {x : aX} (h : RD D B N q x) (e : q' % 32 = q % 32) : RD D B N q' x := by
  unfold RD at h ⊢
  rw [e]
  exact h
theorem dOK.q {D0 D : aD} {B : Nat → Int} {N q q' : Nat} {r : aX × aT} (h : dOK D0 B N q r D) (e : q' % 32 = q % 32) : dOK D0 B N q' r D := ⟨h.1.q e, h.2⟩
theorem bnd_ok {D0 : aD} {o : Option aD} {B : Nat → Int} {N q q' : Nat} {r : aX × aT} (h : Ok o (dOK D0 B N q r)) (e : q' % 32 = q % 32) : Ok (o.bind (fun D_3 => some D_3)) (dOK D0 B N q' r) := ok_bindI (h.mono fun D1 k => ok_someI (k.q e))
theorem cline_ok {D : aD} {B : Nat → Int} {N q : Nat} {x : aX} {T : aT} {v : Int32} (h : RD D B N q x) (h0 : x.1 = 0) (hD : DP D T) (hT : TOKp T) (hq : q < 128) (h4 : q = 0 → T 0 4 = 0) (hv : v = cI (if q = 0 then 1 else 0)) : Ok (f_X7_readLine v D) (dOK D B N (lnX B N (hdX B N x) q x T).1 (lnX B N (hdX B N x) q x T).2) := by
  subst hv
  have q6 := q64 q hq
  have I : ∀ w : Nat, w < 13 → isWb B N w x = true → f_X7_isWord w D = some (cI 1, D) := fun w hw e => by rw [isWord_eq h hw, if_pos e]
  have O : ∀ w : Nat, w < 13 → ¬ isWb B N w x = true → f_X7_isWord w D = some (cI 0, D) := fun w hw e => by rw [isWord_eq h hw, if_neg e]
  have i1 : ¬ (cI 1 = 0) := by decide
  have i0 : cI 0 = 0 := rfl
  unfold f_X7_readLine hdX
  by_cases c5 : isWb B N 5 x = true
  · rw [if_pos c5, I 5 (by omega) c5, e_bi, if_neg i1]
    refine bnd_ok (q := q) ?_ q6.2
    unfold f_X7_readTown
    by_cases z : q = 0
    · rw [if_pos z, if_pos (show cI 1 ≠ 0 from i1)]
      show Ok _ (dOK D B N q (twX B N (if q = 0 then x else flX 4 x) T))
      rw [if_pos z]
      exact ctown9_ok h f56.rf hD hT (fun _ => h4 z)
    · rw [if_neg z, if_neg (show ¬ (cI 0 ≠ 0) from fun y => y rfl)]
      show Ok _ (dOK D B N q (twX B N (if q = 0 then x else flX 4 x) T))
      rw [if_neg z]
      exact ok_bindI ((fail_ok 4 h rfl (by omega) (by omega)).mono fun D1 k => ctown9_ok k.1 k.2 hD hT (fun y => absurd y (fl_1 (by omega))))
  rw [if_neg c5, O 5 (by omega) c5, e_bi, if_pos i0]
  by_cases c6 : isWb B N 6 x = true
  · rw [if_pos c6, I 6 (by omega) c6, e_bi, if_neg i1]
    exact bnd_ok (csort_ok 0 h hD hT rfl (Or.inl rfl)) q6.1
  rw [if_neg c6, O 6 (by omega) c6, e_bi, if_pos i0]
  by_cases c7 : isWb B N 7 x = true
  · rw [if_pos c7, I 7 (by omega) c7, e_bi, if_neg i1]
    exact bnd_ok (csort_ok 1 h hD hT rfl (Or.inr rfl)) q6.1
  rw [if_neg c7, O 7 (by omega) c7, e_bi, if_pos i0]
  by_cases c8 : isWb B N 8 x = true
  · rw [if_pos c8, I 8 (by omega) c8, e_bi, if_neg i1]
    exact bnd_ok (cgarden_ok h hD hT) q6.1
  rw [if_neg c8, O 8 (by omega) c8, e_bi, if_pos i0]
  by_cases c9 : isWb B N 9 x = true
  · rw [if_pos c9, I 9 (by omega) c9, e_bi, if_neg i1]
    exact bnd_ok (cplant_ok h hD hT) q6.1
  rw [if_neg c9, O 9 (by omega) c9, e_bi, if_pos i0]
  by_cases c11 : isWb B N 11 x = true
  · rw [if_pos c11, I 11 (by omega) c11, e_bi, if_neg i1]
    exact bnd_ok (cgate_ok h hD hT) q6.1
  rw [if_neg c11, O 11 (by omega) c11, e_bi, if_pos i0]
  by_cases c12 : isWb B N 12 x = true
  · rw [if_pos c12, I 12 (by omega) c12, e_bi, if_neg i1]
    exact bnd_ok (cmask_ok h hD hT) q6.1
  rw [if_neg c12, O 12 (by omega) c12, e_bi, if_pos i0]
  unfold f_X7_readSetting
  by_cases c0 : isWb B N 0 x = true
  · rw [if_pos c0, I 0 (by omega) c0, e_bi, if_neg i1]
    exact bnd_ok (q := q ||| 1) (ok_bindI ((once_ok 1 h rfl hq (by omega)).mono fun D1 k => cset_ok 20 6 k.1 k.2 hD hT rfl (by omega) (by omega) (by omega))) rfl
  rw [if_neg c0, O 0 (by omega) c0, e_bi, if_pos i0]
  by_cases c1 : isWb B N 1 x = true
  · rw [if_pos c1, I 1 (by omega) c1, e_bi, if_neg i1]
    exact bnd_ok (q := q ||| 2) (ok_bindI ((once_ok 2 h rfl hq (by omega)).mono fun D1 k => cset_ok 9 7 k.1 k.2 hD hT rfl (by omega) (by omega) (by omega))) rfl
  rw [if_neg c1, O 1 (by omega) c1, e_bi, if_pos i0]
  by_cases c2 : isWb B N 2 x = true
  · rw [if_pos c2, I 2 (by omega) c2, e_bi, if_neg i1]
    exact bnd_ok (q := q ||| 4) (ok_bindI ((once_ok 4 h rfl hq (by omega)).mono fun D1 k => cset_ok 14 8 k.1 k.2 hD hT rfl (by omega) (by omega) (by omega))) rfl
  rw [if_neg c2, O 2 (by omega) c2, e_bi, if_pos i0]
  by_cases c3 : isWb B N 3 x = true
  · rw [if_pos c3, I 3 (by omega) c3, e_bi, if_neg i1]
    exact bnd_ok (q := q ||| 8) (ok_bindI ((once_ok 8 h rfl hq (by omega)).mono fun D1 k => cset_ok 99 9 k.1 k.2 hD hT rfl (by omega) (by omega) (by omega))) rfl
  rw [if_neg c3, O 3 (by omega) c3, e_bi, if_pos i0]
  by_cases c4 : isWb B N 4 x = true
  · rw [if_pos c4, I 4 (by omega) c4, e_bi, if_neg i1]
    exact bnd_ok (q := q ||| 16) (ok_bindI ((once_ok 16 h rfl hq (by omega)).mono fun D1 k => cwinds_ok k.1 k.2 hD hT)) rfl
  rw [if_neg c4, O 4 (by omega) c4, e_bi, if_pos i0]
  refine bnd_ok (q := q) ?_ q6.1
  refine ok_bindI ((fail_ok 1 h rfl (by omega) (by omega)).mono fun D1 k => ?_)
  refine ok_bindI ((close_ok k.1).mono fun D2 k2 => ok_someI ?_)
  have z : (flX 1 x).1 ≠ 0 := fl_1 (by omega)
  have k3 := k2.1
  rw [tk_f z, sc_f z] at k3
  exact ⟨k3, fD.of (k.2.tr k2.2), fun y => absurd y z⟩
end LNE
