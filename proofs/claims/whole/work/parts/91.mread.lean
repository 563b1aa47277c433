/-! town: the reference's line -/
section MLN
theorem hd_0 {B : Nat → Int} {N : Nat} {x : aX} (h : isWb B N 0 x = true) : hdX B N x = 0 ∧ ∀ w' : Nat, w' < 13 → w' ≠ 0 → ¬ isWb B N w' x = true := by
  have n : ∀ w' : Nat, w' < 13 → w' ≠ 0 → ¬ isWb B N w' x = true := fun w' a b y => b (isW_u a (by omega) y h)
  refine ⟨?_, n⟩
  unfold hdX
  rw [if_neg (n 5 (by omega) (by omega)), if_neg (n 6 (by omega) (by omega)), if_neg (n 7 (by omega) (by omega)), if_neg (n 8 (by omega) (by omega)), if_neg (n 9 (by omega) (by omega)), if_neg (n 11 (by omega) (by omega)), if_neg (n 12 (by omega) (by omega)), if_pos h]
theorem hd_1 {B : Nat → Int} {N : Nat} {x : aX} (h : isWb B N 1 x = true) : hdX B N x = 1 ∧ ∀ w' : Nat, w' < 13 → w' ≠ 1 → ¬ isWb B N w' x = true := by
  have n : ∀ w' : Nat, w' < 13 → w' ≠ 1 → ¬ isWb B N w' x = true := fun w' a b y => b (isW_u a (by omega) y h)
  refine ⟨?_, n⟩
  unfold hdX
  rw [if_neg (n 5 (by omega) (by omega)), if_neg (n 6 (by omega) (by omega)), if_neg (n 7 (by omega) (by omega)), if_neg (n 8 (by omega) (by omega)), if_neg (n 9 (by omega) (by omega)), if_neg (n 11 (by omega) (by omega)), if_neg (n 12 (by omega) (by omega)), if_neg (n 0 (by omega) (by omega)), if_pos h]
theorem hd_2 {B : Nat → Int} {N : Nat} {x : aX} (h : isWb B N 2 x = true) : hdX B N x = 2 ∧ ∀ w' : Nat, w' < 13 → w' ≠ 2 → ¬ isWb B N w' x = true := by
  have n : ∀ w' : Nat, w' < 13 → w' ≠ 2 → ¬ isWb B N w' x = true := fun w' a b y => b (isW_u a (by omega) y h)
  refine ⟨?_, n⟩
  unfold hdX
  rw [if_neg (n 5 (by omega) (by omega)), if_neg (n 6 (by omega) (by omega)), if_neg (n 7 (by omega) (by omega)), if_neg (n 8 (by omega) (by omega)), if_neg (n 9 (by omega) (by omega)), if_neg (n 11 (by omega) (by omega)), if_neg (n 12 (by omega) (by omega)), if_neg (n 0 (by omega) (by omega)), if_neg (n 1 (by omega) (by omega)), if_pos h]
theorem hd_3 {B : Nat → Int} {N : Nat} {x : aX} (h : isWb B N 3 x = true) : hdX B N x = 3 ∧ ∀ w' : Nat, w' < 13 → w' ≠ 3 → ¬ isWb B N w' x = true := by
  have n : ∀ w' : Nat, w' < 13 → w' ≠ 3 → ¬ isWb B N w' x = true := fun w' a b y => b (isW_u a (by omega) y h)
  refine ⟨?_, n⟩
  unfold hdX
  rw [if_neg (n 5 (by omega) (by omega)), if_neg (n 6 (by omega) (by omega)), if_neg (n 7 (by omega) (by omega)), if_neg (n 8 (by omega) (by omega)), if_neg (n 9 (by omega) (by omega)), if_neg (n 11 (by omega) (by omega)), if_neg (n 12 (by omega) (by omega)), if_neg (n 0 (by omega) (by omega)), if_neg (n 1 (by omega) (by omega)), if_neg (n 2 (by omega) (by omega)), if_pos h]
theorem hd_4 {B : Nat → Int} {N : Nat} {x : aX} (h : isWb B N 4 x = true) : hdX B N x = 4 ∧ ∀ w' : Nat, w' < 13 → w' ≠ 4 → ¬ isWb B N w' x = true := by
  have n : ∀ w' : Nat, w' < 13 → w' ≠ 4 → ¬ isWb B N w' x = true := fun w' a b y => b (isW_u a (by omega) y h)
  refine ⟨?_, n⟩
  unfold hdX
  rw [if_neg (n 5 (by omega) (by omega)), if_neg (n 6 (by omega) (by omega)), if_neg (n 7 (by omega) (by omega)), if_neg (n 8 (by omega) (by omega)), if_neg (n 9 (by omega) (by omega)), if_neg (n 11 (by omega) (by omega)), if_neg (n 12 (by omega) (by omega)), if_neg (n 0 (by omega) (by omega)), if_neg (n 1 (by omega) (by omega)), if_neg (n 2 (by omega) (by omega)), if_neg (n 3 (by omega) (by omega)), if_pos h]
theorem hd_5 {B : Nat → Int} {N : Nat} {x : aX} (h : isWb B N 5 x = true) : hdX B N x = 5 ∧ ∀ w' : Nat, w' < 13 → w' ≠ 5 → ¬ isWb B N w' x = true := by
  have n : ∀ w' : Nat, w' < 13 → w' ≠ 5 → ¬ isWb B N w' x = true := fun w' a b y => b (isW_u a (by omega) y h)
  refine ⟨?_, n⟩
  unfold hdX
  rw [if_pos h]
theorem st_f {B : Nat → Int} {N j : Nat} {x : aX} {T : aT} {top : Int} (h : x.1 ≠ 0) : (stX B N top j x T).1 = x := by
  unfold stX
  rw [nm_f h]
  dsimp only
  rw [tk_f h, sc_f h]
theorem wd_f {B : Nat → Int} {N : Nat} {x : aX} {T : aT} (h : x.1 ≠ 0) : ∀ n : Nat, (wdX B N x T n).1 = x
  | 0 => rfl
  | n + 1 => by
    rw [wdX]
    dsimp only
    rw [wd_f h n, nm_f h]
theorem wi_f {B : Nat → Int} {N : Nat} {x : aX} {T : aT} (h : x.1 ≠ 0) : (wiX B N x T).1 = x := by
  unfold wiX
  rw [wd_f h 5]
  dsimp only
  rw [tk_f h, sc_f h]
def mlO (D0 : aD) (B : Nat → Int) (N : Nat) (q' : Int32) (r : aX × aT) (s : Int32 × aD) : Prop := s.1 = q' ∧ MC s.2 B N (tkX B N r.1) ∧ mF D0 s.2 ∧ (r.1.1 = 0 → MH s.2 r.2)
theorem m139_ok {D0 D : aD} {B : Nat → Int} {N : Nat} {r : aX × aT} {v1 v3 : Int32} (h : MC D B N r.1) (f : mF D0 D) (hM : r.1.1 = 0 → MH D r.2) : Ok (J_X12_readLine_139 v1 v3 D) (mlO D0 B N (v1 ||| v3) r) := by
  unfold J_X12_readLine_139
  by_cases z : r.1.1 = 0
  · rw [if_neg (show ¬ (gI D 88 25 ≠ 0) by rw [ne_eq, bz h]; exact fun y => y z)]
    exact ok_bindI ((mstepX_ok h z).mono fun D1 k => ok_someI ⟨rfl, k.1, f.tr (mF.of k.2), fun w => (hM w).fM k.2⟩)
  · rw [if_pos (show gI D 88 25 ≠ 0 by rw [ne_eq, bz h]; exact z)]
    exact ok_someI ⟨rfl, by rw [tk_f z]; exact h, f, hM⟩
theorem m118_ok {D0 D : aD} {B : Nat → Int} {N : Nat} {r : aX × aT} {v1 v3 : Int32} (h : mOK D0 B N r D) : Ok (J_X12_readLine_118 v1 v3 D) (mlO D0 B N (v1 ||| v3) r) := by
  obtain ⟨z, e, hz, f, hM⟩ := h
  unfold J_X12_readLine_118
  by_cases c : z.1 = 0
  · rw [if_neg (show ¬ (gI D 88 25 ≠ 0) by rw [ne_eq, bz hz]; exact fun y => y c), mmark_eq (vc := 59) 59 3 hz rfl (Or.inl ⟨rfl, rfl⟩), e_bi]
    by_cases k : kd B N z.2.2.1 = 3
    · have e' : r.1 = z := by rw [← e]; exact if_pos k
      rw [if_pos (show z.1 = 0 ∧ kd B N z.2.2.1 = 3 from ⟨c, k⟩), if_pos (show cI 1 ≠ 0 by decide)]
      exact m139_ok (by rw [e']; exact hz) f hM
    · have e' : r.1 = flX 1 z := by rw [← e]; exact if_neg k
      rw [if_neg (show ¬ (z.1 = 0 ∧ kd B N z.2.2.1 = 3) from fun y => k y.2), if_neg (show ¬ (cI 0 ≠ 0) from fun y => y rfl)]
      refine ok_bindI ((mwrong_ok 1 hz rfl (by omega) (by omega)).mono fun D1 q => ?_)
      exact m139_ok (by rw [e']; exact q.1) (f.tr (mF.of q.2)) (fun w => (hM w).fM q.2)
  · have e' : r.1 = z := by rw [← e]; exact sc_f c
    rw [if_pos (show gI D 88 25 ≠ 0 by rw [ne_eq, bz hz]; exact c)]
    exact m139_ok (by rw [e']; exact hz) f hM
theorem m105_ok {D : aD} {B : Nat → Int} {N : Nat} {x : aX} {r : aX × aT} {v1 v2 v3 : Int32} (h : MC D B N x) (h0 : x.1 = 0) (hr : Ok (f_X12_readBy v3 v2 D) (mOK D B N r)) : Ok (J_X12_readLine_105 v1 v2 v3 D) (mlO D B N (v1 ||| v3) r) := by
  unfold J_X12_readLine_105
  rw [if_neg (show ¬ (gI D 88 25 ≠ 0) by rw [ne_eq, bz h]; exact fun y => y h0)]
  exact ok_bindI (hr.mono fun D1 k => m118_ok k)
theorem m100_ok {D : aD} {B : Nat → Int} {N : Nat} {x : aX} {r : aX × aT} {v1 v2 v3 : Int32} (h : MC D B N x) (hr : r.1 = flX 4 x) : Ok (J_X12_readLine_100 v1 v2 v3 D) (mlO D B N (v1 ||| v3) r) := by
  unfold J_X12_readLine_100 J_X12_readLine_105
  refine ok_bindI ((mwrong_ok 4 h rfl (by omega) (by omega)).mono fun D1 k => ?_)
  have y : (flX 4 x).1 ≠ 0 := fl_1 (by omega)
  rw [if_pos (show gI D1 88 25 ≠ 0 by rw [ne_eq, bz k.1]; exact y)]
  exact m118_ok ⟨flX 4 x, by rw [sc_f y, hr], k.1, mF.of k.2, fun w => absurd (by rw [hr] at w; exact w) y⟩
theorem bts : ∀ b : Nat, b = 1 ∨ b = 2 ∨ b = 4 ∨ b = 8 ∨ b = 16 ∨ b = 32 ∨ b = 64 → ∀ q : Nat, q < 128 → (cI (q : Int) &&& cI (b : Int) = 0 ↔ q &&& b = 0) ∧ cI (q : Int) ||| cI (b : Int) = cI ((q ||| b : Nat) : Int) := by
  rintro b (rfl | rfl | rfl | rfl | rfl | rfl | rfl) <;> decide +kernel
theorem mrule_ok {D : aD} {B : Nat → Int} {N q b : Nat} {x : aX} {r0 : aX × aT} {v2 v3 : Int32} (h : MC D B N x) (h0 : x.1 = 0) (hq : q < 128) (hb : b = 1 ∨ b = 2 ∨ b = 4 ∨ b = 8 ∨ b = 16) (e3 : v3 = cI (b : Int)) (hr : q &&& b = 0 → Ok (f_X12_readBy v3 v2 D) (mOK D B N r0)) (h1 : ¬ q &&& b = 0 → r0.1 = flX 4 x) : Ok (J_X12_readLine_77 (cI (q : Int)) v2 v3 D) (mlO D B N (cI ((q ||| b : Nat) : Int)) r0) := by
  subst e3
  have t := bts b (by omega) q hq
  unfold J_X12_readLine_77 J_X12_readLine_88
  rw [if_pos (show cI (b : Int) ≠ 32 by rw [cL32, cI_ne (by omega) (by omega) (by omega) (by omega)]; omega), if_neg (show ¬ (32 ≤ cI (b : Int)) by rw [cL32, cI_le (by omega) (by omega) (by omega) (by omega)]; omega), ← t.2]
  by_cases z : q &&& b = 0
  · rw [if_pos (t.1.mpr z)]
    exact m105_ok h h0 (hr z)
  · rw [if_neg (fun y => z (t.1.mp y))]
    exact m100_ok h (h1 z)
def rlX (B : Nat → Int) (N : Nat) (x : aX) : Nat → Int
  | 0 => -1
  | i + 1 => if isWb B N i x = true then (i : Int) else rlX B N x i
theorem mrl_eq {D : aD} {B : Nat → Int} {N : Nat} {x : aX} {v1 : Int32} (h : MC D B N x) (h0 : x.1 = 0) : aLp (fun s : Int32 × Int32 × aD => B_X12_readLine_4 v1 s.1 s.2.1 s.2.2) (cI (-1), cI 0, D) = some (cI (rlX B N x 4), D) := by
  refine lp_cnt (body := fun s : Int32 × Int32 × aD => B_X12_readLine_4 v1 s.1 s.2.1 s.2.2) 4 (by omega) (fun i => (cI (rlX B N x i), cI (i : Int), D)) (cI (rlX B N x 4), D) ?_ ?_
  · intro i hi
    have e1 : ((i : Int)).toNat = i := by omega
    show B_X12_readLine_4 v1 (cI (rlX B N x i)) (cI (i : Int)) D = some (.inl (cI (rlX B N x (i + 1)), cI ((i + 1 : Nat) : Int), D))
    unfold B_X12_readLine_4
    rw [if_neg (show ¬ (4 ≤ cI (i : Int)) by rw [cL4, cI_le (by omega) (by omega) (by omega) (by omega)]; omega), e_gd (cI_inT (by omega) (by omega) (by omega)), cI_nat (by omega) (by omega), e1, mis_eq h (by omega), e_bi, rlX]
    by_cases c : isWb B N i x = true
    · rw [if_pos (show x.1 = 0 ∧ isWb B N i x = true from ⟨h0, c⟩), if_neg (show ¬ (cI 1 = 0) by decide), if_pos c, e_let, cL1, cI_add]
      rfl
    · rw [if_neg (show ¬ (x.1 = 0 ∧ isWb B N i x = true) from fun y => c y.2), if_pos (show cI 0 = 0 from rfl), if_neg c, e_let, cL1, cI_add]
      rfl
  · show B_X12_readLine_4 v1 (cI (rlX B N x 4)) (cI ((4 : Nat) : Int)) D = _
    unfold B_X12_readLine_4
    rw [if_pos (show 4 ≤ cI ((4 : Nat) : Int) by decide)]
theorem rby_o {D : aD} {B : Nat → Int} {N : Nat} {r : aX × aT} {v2 v3 : Int32} (b : Nat) (e3 : v3 = cI (b : Int)) (hb : b < 32) (h : Ok (f_X12_readOnce v2 D) (mOK D B N r)) : Ok (f_X12_readBy v3 v2 D) (mOK D B N r) := by
  subst e3
  unfold f_X12_readBy
  rw [if_pos (show cI (b : Int) ≠ 32 by rw [cL32, cI_ne (by omega) (by omega) (by omega) (by omega)]; omega), if_neg (show ¬ (32 ≤ cI (b : Int)) by rw [cL32, cI_le (by omega) (by omega) (by omega) (by omega)]; omega)]
  exact mb_ok h
theorem mline_ok {D : aD} {B : Nat → Int} {N q : Nat} {x : aX} {T : aT} (h : MC D B N x) (h0 : x.1 = 0) (hM : MH D T) (hT : TOKp T) (hq : q < 128) (hO : gI D 90 0 = cI 20 ∧ gI D 90 1 = cI 9 ∧ gI D 90 2 = cI 14 ∧ gI D 90 3 = cI 99) : Ok (f_X12_readLine (cI (q : Int)) D) (mlO D B N (cI ((lnX B N (hdX B N x) q x T).1 : Nat)) (lnX B N (hdX B N x) q x T).2) := by
  unfold f_X12_readLine J_X12_readLine_4
  rw [show aLp (fun s : Int32 × Int32 × aD => B_X12_readLine_4 (cI (q : Int)) s.1 s.2.1 s.2.2) ((-1), 0, D) = _ from mrl_eq h h0, e_bind]
  unfold J_X12_readLine_34
  dsimp only
  by_cases c0 : isWb B N 0 x = true
  · obtain ⟨eh, n⟩ := hd_0 c0
    have er : rlX B N x 4 = 0 := by
      rw [rlX, if_neg (n 3 (by omega) (by omega)), rlX, if_neg (n 2 (by omega) (by omega)), rlX, if_neg (n 1 (by omega) (by omega)), rlX, if_pos c0]
      rfl
    rw [er, eh, if_neg (show ¬ (cI 0 = -1) by decide), show (1 : Int32) <<< (cI 0 &&& 31) = cI ((1 : Nat) : Int) by decide]
    refine mrule_ok (b := 1) h h0 hq (by omega) rfl (fun z => rby_o 1 rfl (by omega) ?_) (fun z => ?_)
    · show Ok _ (mOK D B N (stX B N 20 6 (onX q 1 x) T))
      rw [show onX q 1 x = x from if_pos z]
      exact monce_ok 0 20 h h0 hM hT (by omega) hO.1 (by omega) (by omega)
    · show (stX B N 20 6 (onX q 1 x) T).1 = flX 4 x
      rw [show onX q 1 x = flX 4 x from if_neg z]
      exact st_f (fl_1 (by omega))
  by_cases c1 : isWb B N 1 x = true
  · obtain ⟨eh, n⟩ := hd_1 c1
    have er : rlX B N x 4 = 1 := by
      rw [rlX, if_neg (n 3 (by omega) (by omega)), rlX, if_neg (n 2 (by omega) (by omega)), rlX, if_pos c1]
      rfl
    rw [er, eh, if_neg (show ¬ (cI 1 = -1) by decide), show (1 : Int32) <<< (cI 1 &&& 31) = cI ((2 : Nat) : Int) by decide]
    refine mrule_ok (b := 2) h h0 hq (by omega) rfl (fun z => rby_o 2 rfl (by omega) ?_) (fun z => ?_)
    · show Ok _ (mOK D B N (stX B N 9 7 (onX q 2 x) T))
      rw [show onX q 2 x = x from if_pos z]
      exact monce_ok 1 9 h h0 hM hT (by omega) hO.2.1 (by omega) (by omega)
    · show (stX B N 9 7 (onX q 2 x) T).1 = flX 4 x
      rw [show onX q 2 x = flX 4 x from if_neg z]
      exact st_f (fl_1 (by omega))
  by_cases c2 : isWb B N 2 x = true
  · obtain ⟨eh, n⟩ := hd_2 c2
    have er : rlX B N x 4 = 2 := by
      rw [rlX, if_neg (n 3 (by omega) (by omega)), rlX, if_pos c2]
      rfl
    rw [er, eh, if_neg (show ¬ (cI 2 = -1) by decide), show (1 : Int32) <<< (cI 2 &&& 31) = cI ((4 : Nat) : Int) by decide]
    refine mrule_ok (b := 4) h h0 hq (by omega) rfl (fun z => rby_o 4 rfl (by omega) ?_) (fun z => ?_)
    · show Ok _ (mOK D B N (stX B N 14 8 (onX q 4 x) T))
      rw [show onX q 4 x = x from if_pos z]
      exact monce_ok 2 14 h h0 hM hT (by omega) hO.2.2.1 (by omega) (by omega)
    · show (stX B N 14 8 (onX q 4 x) T).1 = flX 4 x
      rw [show onX q 4 x = flX 4 x from if_neg z]
      exact st_f (fl_1 (by omega))
  by_cases c3 : isWb B N 3 x = true
  · obtain ⟨eh, n⟩ := hd_3 c3
    have er : rlX B N x 4 = 3 := by
      rw [rlX, if_pos c3]
      rfl
    rw [er, eh, if_neg (show ¬ (cI 3 = -1) by decide), show (1 : Int32) <<< (cI 3 &&& 31) = cI ((8 : Nat) : Int) by decide]
    refine mrule_ok (b := 8) h h0 hq (by omega) rfl (fun z => rby_o 8 rfl (by omega) ?_) (fun z => ?_)
    · show Ok _ (mOK D B N (stX B N 99 9 (onX q 8 x) T))
      rw [show onX q 8 x = x from if_pos z]
      exact monce_ok 3 99 h h0 hM hT (by omega) hO.2.2.2 (by omega) (by omega)
    · show (stX B N 99 9 (onX q 8 x) T).1 = flX 4 x
      rw [show onX q 8 x = flX 4 x from if_neg z]
      exact st_f (fl_1 (by omega))
  have er : rlX B N x 4 = -1 := by
    rw [rlX, if_neg c3, rlX, if_neg c2, rlX, if_neg c1, rlX, if_neg c0]
    rfl
  rw [er, if_pos (show cI (-1) = -1 from rfl)]
  by_cases c4 : isWb B N 4 x = true
  · obtain ⟨eh, n⟩ := hd_4 c4
    rw [mis_eq h (by omega), if_pos (show x.1 = 0 ∧ isWb B N 4 x = true from ⟨h0, c4⟩), e_bi, if_neg (show ¬ (cI 1 = 0) by decide), eh]
    refine mrule_ok (b := 16) h h0 hq (by omega) rfl (fun z => rby_o 16 rfl (by omega) ?_) (fun z => ?_)
    · show Ok _ (mOK D B N (wiX B N (onX q 16 x) T))
      rw [show onX q 16 x = x from if_pos z]
      exact mwinds_ok h h0 hM hT
    · show (wiX B N (onX q 16 x) T).1 = flX 4 x
      rw [show onX q 16 x = flX 4 x from if_neg z]
      exact wi_f (fl_1 (by omega))
  rw [mis_eq h (by omega), if_neg (show ¬ (x.1 = 0 ∧ isWb B N 4 x = true) from fun y => c4 y.2), e_bi, if_pos (show cI 0 = 0 from rfl)]
  by_cases c5 : isWb B N 5 x = true
  · obtain ⟨eh, n⟩ := hd_5 c5
    have t := bts 32 (by omega) q hq
    rw [mis_eq h (by omega), if_pos (show x.1 = 0 ∧ isWb B N 5 x = true from ⟨h0, c5⟩), e_bi, if_neg (show ¬ (cI 1 = 0) by decide), eh]
    show Ok _ (mlO D B N (cI ((q ||| 32 : Nat) : Int)) (twX B N (if q = 0 then x else flX 4 x) T))
    rw [← t.2]
    unfold J_X12_readLine_77
    rw [if_neg (show ¬ ((32 : Int32) ≠ 32) from fun y => y rfl)]
    by_cases z : q = 0
    · rw [if_neg (show ¬ (cI (q : Int) ≠ 0) by rw [z]; exact fun y => y rfl), if_pos z]
      unfold J_X12_readLine_88
      rw [if_pos (show (32 : Int32) ≤ 32 by decide)]
      refine m105_ok h h0 ?_
      unfold f_X12_readBy
      rw [if_neg (show ¬ ((32 : Int32) ≠ 32) from fun y => y rfl)]
      exact mb_ok (mtownl_ok h h0 hM hT)
    · rw [if_pos (show cI (q : Int) ≠ 0 by rw [cL0, cI_ne (by omega) (by omega) (by omega) (by omega)]; omega), if_neg z]
      exact m100_ok h (tw_f (fl_1 (by omega)))
  rw [mis_eq h (by omega), if_neg (show ¬ (x.1 = 0 ∧ isWb B N 5 x = true) from fun y => c5 y.2), e_bi, if_pos (show cI 0 = 0 from rfl)]
  have t := bts 64 (by omega) q hq
  have eq : (lnX B N (hdX B N x) q x T).1 = (q ||| 64) := by
    unfold hdX
    rw [if_neg c5, if_neg c0, if_neg c1, if_neg c2, if_neg c3, if_neg c4]
    repeat' split
    all_goals rfl
  rw [eq, ← t.2]
  unfold J_X12_readLine_77 J_X12_readLine_88
  rw [if_pos (show (64 : Int32) ≠ 32 by decide), if_pos (show (32 : Int32) ≤ 64 by decide)]
  exact m105_ok h h0 (mby_ok h h0 hM hT _ c5 c0 c1 c2 c3 c4)
end MLN
