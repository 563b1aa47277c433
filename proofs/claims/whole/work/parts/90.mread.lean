/-! town: the reference's sorts; a line, whichever it is -/
section MRD
theorem sgX_0 {B : Nat → Int} {N : Nat} {m : Int} {x : aX} (h : (sgX B N m (tkX B N x)).2.1 = 0) : x.1 = 0 := by
  by_cases z : x.1 = 0
  · exact z
  · have e : sgX B N m (tkX B N x) = nhX B N 0 m (tkX B N x) := if_neg (fun y => z (tk_1.symm.trans y.1))
    rw [e] at h
    exact nm_0 (a := 0) (b := m) h
theorem msort14_ok {D : aD} {B : Nat → Int} {N : Nat} {x : aX} {T : aT} (hh : Int) (h : MC D B N x) (h0 : x.1 = 0) (hM : MH D T) (hT : TOKp T) : Ok (J_X12_readSort_14 (cI hh) D) (mOK D B N (soX B N hh x T)) := by
  have hq := hT.1
  have c2 := hM.1 2 (by omega)
  obtain ⟨r1, r2, r3, r4, r5, r6⟩ := s_r (B := B) (N := N) (x := x)
  unfold J_X12_readSort_14
  refine ok_biI ((mbegin_ok 2 6 (T 0 2) h h0 rfl rfl (by omega) (by omega) c2 (by omega) (by omega)).mono fun r k => ?_)
  obtain ⟨y, D1⟩ := r
  obtain ⟨k1, k2, k3⟩ := k
  have k3' : fM D D1 := k3
  unfold soX
  dsimp only
  by_cases z : T 0 2 < 6
  · obtain ⟨e, k4⟩ := k1 z
    obtain rfl : y = cI 1 := e
    have k4' : MC D1 B N (tkX B N x) := k4
    have hM1 := hM.fM k3'
    have e1 : ((6 : Int) + T 0 2).toNat = 6 + (T 0 2).toNat := by omega
    have tn : (cI (6 + T 0 2)).toNatClampNeg = 6 + (T 0 2).toNat := by rw [cI_nat (by omega) (by omega), e1]
    have ig : aIn (cI (6 + T 0 2)) 12 = true := cI_inT (by omega) (by omega) (by omega)
    have es : T 0 2 ≤ ((6 + (T 0 2).toNat : Nat) : Int) - 6 := by omega
    rw [if_pos (show cI 1 ≠ 0 by decide), if_pos z, e_gd (by decide), e_let, show gI D1 91 (18 : Int32).toNatClampNeg = cI (T 0 2) from hM1.1 2 (by omega), show (6 : Int32) + cI (T 0 2) = cI (6 + T 0 2) from cI_add 6 (T 0 2), e_gd ig, e_let, tn]
    generalize hn : 6 + (T 0 2).toNat = n at es
    have n6 : 6 ≤ n := by omega
    have stp : ∀ (D1 D2 : aD) (k : Nat) (v : Int32), 92 ≤ k → k ≤ 98 → MH D1 T → mF D D1 → fM D1 D2 → MH (pI D2 k n v) T ∧ mF D (pI D2 k n v) := fun D1 D2 k v u1 u2 a b c => ⟨fMd a c (Or.inl ⟨u1, u2, es⟩), (b.tr (mF.of c)).wr (Or.inr (Or.inl ⟨u1, u2, n6⟩))⟩
    have g0 := stp D1 D1 98 (cI hh) (by omega) (by omega) hM1 (mF.of k3') fM.rf
    have v6 : gI (pI D1 98 n (cI hh)) 98 n = cI hh := gI_eq
    have q0 := k4'.wr (k := 98) (j := n) (v := cI hh) (by omega) (by omega)
    generalize pI D1 98 n (cI hh) = D2 at g0 v6 q0 ⊢
    refine ok_biI ((mread_ok 1 99 q0 rfl rfl (by omega) (by omega) (by omega) (by omega)).mono fun r k => ?_)
    obtain ⟨y, D3⟩ := r
    obtain ⟨e, k1, k2⟩ := k
    obtain rfl : y = cI (vz (s1X B N x)) := e
    have k1' : MC D3 B N (tkX B N (s1X B N x).2) := k1
    have k2' : fM D2 D3 := k2
    dsimp only
    rw [e_gd ig, e_let]
    have g1 := stp D2 D3 92 (cI (vz (s1X B N x))) (by omega) (by omega) g0.1 g0.2 k2'
    replace v6 : gI (pI D3 92 n (cI (vz (s1X B N x)))) 98 n = cI hh := (gI_fr (by omega)).trans ((k2'.1 _ _ (by omega)).trans v6)
    have w92 : gI (pI D3 92 n (cI (vz (s1X B N x)))) 92 n = cI (vz (s1X B N x)) := gI_eq
    have q1 := k1'.wr (k := 92) (j := n) (v := cI (vz (s1X B N x))) (by omega) (by omega)
    clear q0 g0 k1 k2 k1' k2'
    generalize pI D3 92 n (cI (vz (s1X B N x))) = D4 at g1 v6 w92 q1 ⊢
    refine ok_biI ((mread_ok 0 51 q1 rfl rfl (by omega) (by omega) (by omega) (by omega)).mono fun r k => ?_)
    obtain ⟨y, D5⟩ := r
    obtain ⟨e, k1, k2⟩ := k
    obtain rfl : y = cI (vz (s2X B N x)) := e
    have k1' : MC D5 B N (tkX B N (s2X B N x).2) := k1
    have k2' : fM D4 D5 := k2
    dsimp only
    rw [e_gd ig, e_let]
    have g2 := stp D4 D5 93 (cI (vz (s2X B N x))) (by omega) (by omega) g1.1 g1.2 k2'
    replace v6 : gI (pI D5 93 n (cI (vz (s2X B N x)))) 98 n = cI hh := (gI_fr (by omega)).trans ((k2'.1 _ _ (by omega)).trans v6)
    replace w92 : gI (pI D5 93 n (cI (vz (s2X B N x)))) 92 n = cI (vz (s1X B N x)) := (gI_fr (by omega)).trans ((k2'.1 _ _ (by omega)).trans w92)
    have w93 : gI (pI D5 93 n (cI (vz (s2X B N x)))) 93 n = cI (s2X B N x).1 := gI_eq.trans (congrArg cI (show vz (s2X B N x) = (s2X B N x).1 from vz_0))
    have q2 := k1'.wr (k := 93) (j := n) (v := cI (vz (s2X B N x))) (by omega) (by omega)
    clear q1 g1 k1 k2 k1' k2'
    generalize pI D5 93 n (cI (vz (s2X B N x))) = D6 at g2 v6 w92 w93 q2 ⊢
    rw [e_gd ig, w93]
    refine ok_biI ((mread_ok (s2X B N x).1 51 q2 rfl rfl (by omega) (by omega) (by omega) (by omega)).mono fun r k => ?_)
    obtain ⟨y, D7⟩ := r
    obtain ⟨e, k1, k2⟩ := k
    obtain rfl : y = cI (vz (s3X B N x)) := e
    have k1' : MC D7 B N (tkX B N (s3X B N x).2) := k1
    have k2' : fM D6 D7 := k2
    dsimp only
    rw [e_gd ig, e_let]
    have g3 := stp D6 D7 94 (cI (vz (s3X B N x))) (by omega) (by omega) g2.1 g2.2 k2'
    replace v6 : gI (pI D7 94 n (cI (vz (s3X B N x)))) 98 n = cI hh := (gI_fr (by omega)).trans ((k2'.1 _ _ (by omega)).trans v6)
    replace w92 : gI (pI D7 94 n (cI (vz (s3X B N x)))) 92 n = cI (vz (s1X B N x)) := (gI_fr (by omega)).trans ((k2'.1 _ _ (by omega)).trans w92)
    replace w93 : gI (pI D7 94 n (cI (vz (s3X B N x)))) 93 n = cI (s2X B N x).1 := (gI_fr (by omega)).trans ((k2'.1 _ _ (by omega)).trans w93)
    have w94 : gI (pI D7 94 n (cI (vz (s3X B N x)))) 94 n = cI (vz (s3X B N x)) := gI_eq
    have q3 := k1'.wr (k := 94) (j := n) (v := cI (vz (s3X B N x))) (by omega) (by omega)
    clear q2 g2 k1 k2 k1' k2'
    generalize pI D7 94 n (cI (vz (s3X B N x))) = D8 at g3 v6 w92 w93 w94 q3 ⊢
    refine ok_biI ((mread_ok 0 23 q3 rfl rfl (by omega) (by omega) (by omega) (by omega)).mono fun r k => ?_)
    obtain ⟨y, D9⟩ := r
    obtain ⟨e, k1, k2⟩ := k
    obtain rfl : y = cI (vz (s4X B N x)) := e
    have k1' : MC D9 B N (tkX B N (s4X B N x).2) := k1
    have k2' : fM D8 D9 := k2
    dsimp only
    rw [e_gd ig, e_let]
    have g4 := stp D8 D9 95 (cI (vz (s4X B N x))) (by omega) (by omega) g3.1 g3.2 k2'
    replace v6 : gI (pI D9 95 n (cI (vz (s4X B N x)))) 98 n = cI hh := (gI_fr (by omega)).trans ((k2'.1 _ _ (by omega)).trans v6)
    replace w92 : gI (pI D9 95 n (cI (vz (s4X B N x)))) 92 n = cI (vz (s1X B N x)) := (gI_fr (by omega)).trans ((k2'.1 _ _ (by omega)).trans w92)
    replace w93 : gI (pI D9 95 n (cI (vz (s4X B N x)))) 93 n = cI (s2X B N x).1 := (gI_fr (by omega)).trans ((k2'.1 _ _ (by omega)).trans w93)
    replace w94 : gI (pI D9 95 n (cI (vz (s4X B N x)))) 94 n = cI (vz (s3X B N x)) := (gI_fr (by omega)).trans ((k2'.1 _ _ (by omega)).trans w94)
    have w95 : gI (pI D9 95 n (cI (vz (s4X B N x)))) 95 n = cI (s4X B N x).1 := gI_eq.trans (congrArg cI (show vz (s4X B N x) = (s4X B N x).1 from vz_0))
    have q4 := k1'.wr (k := 95) (j := n) (v := cI (vz (s4X B N x))) (by omega) (by omega)
    clear q3 g3 k1 k2 k1' k2'
    generalize pI D9 95 n (cI (vz (s4X B N x))) = D10 at g4 v6 w92 w93 w94 w95 q4 ⊢
    rw [e_gd ig, w95]
    refine ok_biI ((mread_ok (s4X B N x).1 23 q4 rfl rfl (by omega) (by omega) (by omega) (by omega)).mono fun r k => ?_)
    obtain ⟨y, D11⟩ := r
    obtain ⟨e, k1, k2⟩ := k
    obtain rfl : y = cI (vz (s5X B N x)) := e
    have k1' : MC D11 B N (tkX B N (s5X B N x).2) := k1
    have k2' : fM D10 D11 := k2
    dsimp only
    rw [e_gd ig, e_let]
    have g5 := stp D10 D11 96 (cI (vz (s5X B N x))) (by omega) (by omega) g4.1 g4.2 k2'
    replace v6 : gI (pI D11 96 n (cI (vz (s5X B N x)))) 98 n = cI hh := (gI_fr (by omega)).trans ((k2'.1 _ _ (by omega)).trans v6)
    replace w92 : gI (pI D11 96 n (cI (vz (s5X B N x)))) 92 n = cI (vz (s1X B N x)) := (gI_fr (by omega)).trans ((k2'.1 _ _ (by omega)).trans w92)
    replace w93 : gI (pI D11 96 n (cI (vz (s5X B N x)))) 93 n = cI (s2X B N x).1 := (gI_fr (by omega)).trans ((k2'.1 _ _ (by omega)).trans w93)
    replace w94 : gI (pI D11 96 n (cI (vz (s5X B N x)))) 94 n = cI (vz (s3X B N x)) := (gI_fr (by omega)).trans ((k2'.1 _ _ (by omega)).trans w94)
    replace w95 : gI (pI D11 96 n (cI (vz (s5X B N x)))) 95 n = cI (s4X B N x).1 := (gI_fr (by omega)).trans ((k2'.1 _ _ (by omega)).trans w95)
    have w96 : gI (pI D11 96 n (cI (vz (s5X B N x)))) 96 n = cI (vz (s5X B N x)) := gI_eq
    have q5 := k1'.wr (k := 96) (j := n) (v := cI (vz (s5X B N x))) (by omega) (by omega)
    clear q4 g4 k1 k2 k1' k2'
    generalize pI D11 96 n (cI (vz (s5X B N x))) = D12 at g5 v6 w92 w93 w94 w95 w96 q5 ⊢
    refine ok_biI ((msigned_ok 9 q5 rfl (by omega) (by omega)).mono fun r k => ?_)
    obtain ⟨y, D13⟩ := r
    obtain ⟨e, k1, k2⟩ := k
    obtain rfl : y = cI (vz (s6X B N x)) := e
    have k1' : MC D13 B N (tkX B N (s6X B N x).2) := k1
    have k2' : fM D12 D13 := k2
    dsimp only
    rw [e_gd ig, e_let, show vz (s6X B N x) = (s6X B N x).1 from vz_s]
    have g6 := stp D12 D13 97 (cI (s6X B N x).1) (by omega) (by omega) g5.1 g5.2 k2'
    rw [e_gd (by decide), e_gd (by decide), e_let, show (18 : Int32).toNatClampNeg = 16 + 2 from rfl, g6.1.1 2 (by omega), cL1, cI_add]
    refine ok_someI ⟨_, rfl, (k1'.wr (by omega) (by omega)).wr (by omega) (by omega), g6.2.wr (Or.inl ⟨rfl, by omega⟩), fun w => ?_⟩
    have z6 : (s6X B N x).2.1 = 0 := tk_1.symm.trans (sc_0 w)
    have z5 : (s5X B N x).2.1 = 0 := sgX_0 z6
    have z4 : (s4X B N x).2.1 = 0 := nm_0 z5
    have z3 : (s3X B N x).2.1 = 0 := nm_0 z4
    have z2 : (s2X B N x).2.1 = 0 := nm_0 z3
    have z1 : (s1X B N x).2.1 = 0 := nm_0 z2
    rw [vz_ok z1] at w92
    rw [vz_ok z3] at w94
    rw [vz_ok z5] at w96
    refine g6.1.sort (by omega) (fun f hf => ?_)
    rw [hn]
    have b : ∀ k : Nat, k ≠ 97 → 92 ≤ k → gI (pI D13 97 n (cI (s6X B N x).1)) k n = gI D12 k n := fun k hk hk2 => (gI_fr (by omega)).trans (k2'.1 _ _ (by omega))
    have e : f = 0 ∨ f = 1 ∨ f = 2 ∨ f = 3 ∨ f = 4 ∨ f = 5 ∨ f = 6 := by omega
    rcases e with rfl | rfl | rfl | rfl | rfl | rfl | rfl
    · exact (b 92 (by omega) (by omega)).trans w92
    · exact (b 93 (by omega) (by omega)).trans w93
    · exact (b 94 (by omega) (by omega)).trans w94
    · exact (b 95 (by omega) (by omega)).trans w95
    · exact (b 96 (by omega) (by omega)).trans w96
    · exact gI_eq
    · exact (b 98 (by omega) (by omega)).trans v6
  · obtain ⟨e, k4⟩ := k2 z
    obtain rfl : y = cI 0 := e
    rw [if_neg (show ¬ (cI 0 ≠ 0) from fun y => y rfl), if_neg z]
    exact ok_someI (mOK.fl (by omega) k4 (mF.of k3'))
theorem mb_ok {D0 : aD} {o : Option aD} {B : Nat → Int} {N : Nat} {r : aX × aT} (h : Ok o (mOK D0 B N r)) : Ok (o.bind (fun D_3 => some D_3)) (mOK D0 B N r) := ok_bindI (h.mono fun D1 k => ok_someI k)
theorem mby_ok {D : aD} {B : Nat → Int} {N q : Nat} {x : aX} {T : aT} (h : MC D B N x) (h0 : x.1 = 0) (hM : MH D T) (hT : TOKp T) (v : Int32) (c5 : ¬ isWb B N 5 x = true) (c0 : ¬ isWb B N 0 x = true) (c1 : ¬ isWb B N 1 x = true) (c2 : ¬ isWb B N 2 x = true) (c3 : ¬ isWb B N 3 x = true) (c4 : ¬ isWb B N 4 x = true) : Ok (f_X12_readBy 64 v D) (mOK D B N (lnX B N (hdX B N x) q x T).2) := by
  have I : ∀ w : Nat, w < 13 → isWb B N w x = true → f_X12_is w D = some (cI 1, D) := fun w hw e => by rw [mis_eq h hw, if_pos ⟨h0, e⟩]
  have O : ∀ w : Nat, w < 13 → ¬ isWb B N w x = true → f_X12_is w D = some (cI 0, D) := fun w hw e => by rw [mis_eq h hw, if_neg (fun y => e y.2)]
  have i1 : ¬ (cI 1 = 0) := by decide
  have i0 : cI 0 = 0 := rfl
  unfold f_X12_readBy hdX
  rw [if_pos (show (64 : Int32) ≠ 32 by decide), if_pos (show (32 : Int32) ≤ 64 by decide), if_neg c5]
  by_cases c6 : isWb B N 6 x = true
  · rw [if_pos c6, I 6 (by omega) c6, e_bi, if_pos (show cI 1 ≠ 0 from i1)]
    refine mb_ok ?_
    unfold f_X12_readSort
    have c7 : ¬ isWb B N 7 x = true := fun y => absurd (isW_u (by omega) (by omega) c6 y) (by omega)
    rw [O 7 (by omega) c7, e_bi, if_pos i0]
    exact msort14_ok 0 h h0 hM hT
  rw [if_neg c6, O 6 (by omega) c6, e_bi, if_neg (show ¬ (cI 0 ≠ 0) from fun y => y rfl)]
  by_cases c7 : isWb B N 7 x = true
  · rw [if_pos c7, I 7 (by omega) c7, e_bi, if_neg i1]
    refine mb_ok ?_
    unfold f_X12_readSort
    rw [I 7 (by omega) c7, e_bi, if_neg i1]
    exact msort14_ok 1 h h0 hM hT
  rw [if_neg c7, O 7 (by omega) c7, e_bi, if_pos i0]
  by_cases c8 : isWb B N 8 x = true
  · rw [if_pos c8, I 8 (by omega) c8, e_bi, if_neg i1]
    exact mgarden_ok h h0 hM hT
  rw [if_neg c8, O 8 (by omega) c8, e_bi, if_pos i0]
  by_cases c9 : isWb B N 9 x = true
  · rw [if_pos c9, I 9 (by omega) c9, e_bi, if_neg i1]
    exact mb_ok (mplant_ok h h0 hM hT)
  rw [if_neg c9, O 9 (by omega) c9, e_bi, if_pos i0]
  by_cases c11 : isWb B N 11 x = true
  · rw [if_pos c11, I 11 (by omega) c11, e_bi, if_neg i1]
    exact mgate_ok h h0 hM hT
  rw [if_neg c11, O 11 (by omega) c11, e_bi, if_pos i0]
  by_cases c12 : isWb B N 12 x = true
  · rw [if_pos c12, I 12 (by omega) c12, e_bi, if_neg i1]
    exact mb_ok (mmask_ok h h0 hM hT)
  rw [if_neg c12, O 12 (by omega) c12, e_bi, if_pos i0, if_neg c0, if_neg c1, if_neg c2, if_neg c3, if_neg c4]
  refine mb_ok ((mwrong_ok 1 h rfl (by omega) (by omega)).mono fun D1 k => ?_)
  exact mOK.fl (by omega) k.1 (mF.of k.2)
end MRD
