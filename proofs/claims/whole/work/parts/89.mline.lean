/-! town: the reference's lines, the others -/
section ML2
theorem fMd {D D' : aD} {T : aT} {k j : Nat} {v : Int32} (h : MH D T) (e : fM D D') (hk : (92 ≤ k ∧ k ≤ 98 ∧ T 0 2 ≤ (j : Int) - 6) ∨ (99 ≤ k ∧ k ≤ 101 ∧ T 0 4 ≤ (j : Int) - 13)) : MH (pI D' k j v) T := (h.fM e).fr (fun k' j' _ _ a b c => gI_fr (by omega))
theorem m146_ok {D0 D : aD} {B : Nat → Int} {N : Nat} {z : aX} {T : aT} {a c o : Int} (r1 : aX) (hz : scX B N z = r1) (h : MC D B N z) (f : mF D0 D) (hT : TOKp T) (h4 : T 0 4 < 12) (hM : r1.1 = 0 → MH D T ∧ gI D 99 (13 + (T 0 4).toNat) = cI a ∧ gI D 100 (13 + (T 0 4).toNat) = cI c) (c4 : gI D 91 20 = cI (T 0 4)) : Ok (J_X12_readPlant_146 (cI o) (cI (13 + T 0 4)) D) (mOK D0 B N (r1, plW T a c o)) := by
  have hq := hT.1
  unfold J_X12_readPlant_146
  have e1 : ((13 : Int) + T 0 4).toNat = 13 + (T 0 4).toNat := by omega
  rw [e_gd (cI_inT (by omega) (by omega) (by omega)), e_let, cI_nat (by omega) (by omega), e1, e_gd (by decide), e_gd (by decide), e_let, show (20 : Int32).toNatClampNeg = 20 from rfl, gI_fr (by omega), c4, cL1, cI_add]
  refine ok_someI ⟨z, hz, (h.wr (by omega) (by omega)).wr (by omega) (by omega), (f.wr (Or.inr (Or.inr (Or.inl ⟨by omega, by omega, by omega⟩)))).wr (Or.inl ⟨rfl, by omega⟩), fun w => ?_⟩
  obtain ⟨m1, m2, m3⟩ := hM w
  exact (MH.fr m1 (D' := pI D 101 (13 + (T 0 4).toNat) (cI o)) (fun k j _ _ _ b _ => gI_fr (by omega))).plant (by omega) ((gI_fr (by omega)).trans m2) ((gI_fr (by omega)).trans m3) gI_eq
theorem m123_ok {D0 D : aD} {B : Nat → Int} {N : Nat} {x : aX} {T : aT} {a c : Int} (y : aX) (h : MC D B N (tkX B N y)) (f : mF D0 D) (hT : TOKp T) (h4 : T 0 4 < 12) (hM : y.1 = 0 → MH D T ∧ gI D 99 (13 + (T 0 4).toNat) = cI a ∧ gI D 100 (13 + (T 0 4).toNat) = cI c) (c4 : gI D 91 20 = cI (T 0 4)) (c3 : gI D 91 19 = cI (T 0 3)) : Ok (J_X12_readPlant_123 (cI (13 + T 0 4)) D) (mOK D0 B N (scX B N (owX B N (T 0 3) (tkX B N y)).2, plW T a c (owX B N (T 0 3) (tkX B N y)).1)) := by
  have hq := hT.1
  have y1 : (tkX B N y).1 = y.1 := tk_1
  have y0 : (scX B N (owX B N (T 0 3) (tkX B N y)).2).1 = 0 → y.1 = 0 := fun w => by
    rcases ow_0 (show 0 ≤ T 0 3 by omega) (sc_0 w) with o | o
    · exact y1.symm.trans o.1
    · exact y1.symm.trans o.1
  unfold J_X12_readPlant_123
  refine ok_biI ((mpass_ok h (show 10 < 13 by omega)).mono fun r k => ?_)
  obtain ⟨v, D1⟩ := r
  obtain ⟨k1, k2, k3⟩ := k
  have k3' : fM D D1 := k3
  dsimp only
  by_cases z : (tkX B N y).1 = 0 ∧ isWb B N 10 (tkX B N y) = true
  · obtain ⟨e, k4⟩ := k1 z
    obtain rfl : v = cI 1 := e
    have k4' : MC D1 B N (tkX B N (tkX B N y)) := k4
    have eo : owX B N (T 0 3) (tkX B N y) = ((khX B N (T 0 3) (tkX B N (tkX B N y))).1, tkX B N (khX B N (T 0 3) (tkX B N (tkX B N y))).2) := if_pos z
    rw [if_neg (show ¬ (cI 1 = 0) by decide)]
    refine ok_biI ((mrone_ok 3 (T 0 3) k4' rfl (Or.inr rfl) ((k3'.1 _ _ (by omega)).trans c3) (by omega) (by omega)).mono fun r k => ?_)
    obtain ⟨v, D2⟩ := r
    obtain ⟨e, k5, k6⟩ := k
    obtain rfl : v = cI (vz (khX B N (T 0 3) (tkX B N (tkX B N y)))) := e
    have k6' : fM D1 D2 := k6
    rw [eo] at y0 ⊢
    rw [vz_k]
    have f2 := k3'.tr k6'
    exact m146_ok _ rfl k5 (f.tr (mF.of f2)) hT h4 (fun w => ⟨(hM (y0 w)).1.fM f2, (f2.1 _ _ (by omega)).trans (hM (y0 w)).2.1, (f2.1 _ _ (by omega)).trans (hM (y0 w)).2.2⟩) ((f2.1 _ _ (by omega)).trans c4)
  · obtain ⟨e, k4⟩ := k2 z
    obtain rfl : v = cI 0 := e
    have eo : owX B N (T 0 3) (tkX B N y) = (-1, tkX B N y) := if_neg z
    rw [if_pos (show cI 0 = 0 from rfl), cLm1]
    rw [eo] at y0 ⊢
    exact m146_ok (o := -1) _ rfl k4 (f.tr (mF.of k3')) hT h4 (fun w => ⟨(hM (y0 w)).1.fM k3', (k3'.1 _ _ (by omega)).trans (hM (y0 w)).2.1, (k3'.1 _ _ (by omega)).trans (hM (y0 w)).2.2⟩) ((k3'.1 _ _ (by omega)).trans c4)
theorem m112_ok {D0 D : aD} {B : Nat → Int} {N : Nat} {x : aX} {T : aT} {a c : Int} (y : aX) (h : MC D B N y) (f : mF D0 D) (hT : TOKp T) (h4 : T 0 4 < 12) (hM : y.1 = 0 → MH D T ∧ gI D 99 (13 + (T 0 4).toNat) = cI a ∧ gI D 100 (13 + (T 0 4).toNat) = cI c) (c4 : gI D 91 20 = cI (T 0 4)) (c3 : gI D 91 19 = cI (T 0 3)) : Ok (J_X12_readPlant_112 (cI (13 + T 0 4)) D) (mOK D0 B N (scX B N (owX B N (T 0 3) (tkX B N y)).2, plW T a c (owX B N (T 0 3) (tkX B N y)).1)) := by
  unfold J_X12_readPlant_112
  by_cases z : y.1 = 0
  · rw [if_neg (show ¬ (gI D 88 25 ≠ 0) by rw [ne_eq, bz h]; exact fun w => w z)]
    refine ok_bindI ((mstepX_ok h z).mono fun D1 k => ?_)
    exact m123_ok (x := x) y k.1 (f.tr (mF.of k.2)) hT h4 (fun w => ⟨(hM w).1.fM k.2, (k.2.1 _ _ (by omega)).trans (hM w).2.1, (k.2.1 _ _ (by omega)).trans (hM w).2.2⟩) ((k.2.1 _ _ (by omega)).trans c4) ((k.2.1 _ _ (by omega)).trans c3)
  · rw [if_pos (show gI D 88 25 ≠ 0 by rw [ne_eq, bz h]; exact z)]
    exact m123_ok (x := x) y (by rw [tk_f z]; exact h) f hT h4 hM c4 c3
theorem mplant_ok {D : aD} {B : Nat → Int} {N : Nat} {x : aX} {T : aT} (h : MC D B N x) (h0 : x.1 = 0) (hM : MH D T) (hT : TOKp T) : Ok (f_X12_readPlant D) (mOK D B N (plX B N x T)) := by
  have hq := hT.1
  have c4 := hM.1 4 (by omega)
  unfold f_X12_readPlant
  refine ok_biI ((mbegin_ok 4 12 (T 0 4) h h0 rfl rfl (by omega) (by omega) c4 (by omega) (by omega)).mono fun r k => ?_)
  obtain ⟨y, D1⟩ := r
  obtain ⟨k1, k2, k3⟩ := k
  have k3' : fM D D1 := k3
  unfold plX
  dsimp only
  by_cases z : T 0 4 < 12
  · obtain ⟨e, k4⟩ := k1 z
    obtain rfl : y = cI 1 := e
    have k4' : MC D1 B N (tkX B N x) := k4
    have hM1 := hM.fM k3'
    have e1 : ((13 : Int) + T 0 4).toNat = 13 + (T 0 4).toNat := by omega
    have gb := gt_b (B := B) (N := N) (x := (plA B N x T).2) hT
    rw [if_pos (show cI 1 ≠ 0 by decide), if_pos z, e_gd (by decide), e_let, show gI D1 91 (20 : Int32).toNatClampNeg = cI (T 0 4) from hM1.1 4 (by omega), show (13 : Int32) + cI (T 0 4) = cI (13 + T 0 4) from cI_add 13 (T 0 4)]
    refine ok_biI ((mrone_ok 2 (T 0 2) k4' rfl (Or.inl rfl) (hM1.1 2 (by omega)) (by omega) (by omega)).mono fun r k => ?_)
    obtain ⟨y, D2⟩ := r
    obtain ⟨e, k5, k6⟩ := k
    obtain rfl : y = cI (vz (plA B N x T)) := e
    have ea : vz (plA B N x T) = (plA B N x T).1 := vz_k
    rw [ea]
    have k5' : MC D2 B N (tkX B N (plA B N x T).2) := k5
    have k6' : fM D1 D2 := k6
    dsimp only
    rw [e_gd (cI_inT (by omega) (by omega) (by omega)), e_let, cI_nat (by omega) (by omega), e1, e_gd (by decide)]
    have hM2 : MH (pI D2 99 (13 + (T 0 4).toNat) (cI (plA B N x T).1)) T := fMd hM1 k6' (Or.inr (by omega))
    have f2 : mF D (pI D2 99 (13 + (T 0 4).toNat) (cI (plA B N x T).1)) := (mF.of (k3'.tr k6')).wr (Or.inr (Or.inr (Or.inl ⟨by omega, by omega, by omega⟩)))
    have g2 := k5'.wr (k := 99) (j := 13 + (T 0 4).toNat) (v := cI (plA B N x T).1) (by omega) (by omega)
    have v99 : gI (pI D2 99 (13 + (T 0 4).toNat) (cI (plA B N x T).1)) 99 (13 + (T 0 4).toNat) = cI (plA B N x T).1 := gI_eq
    generalize pI D2 99 (13 + (T 0 4).toNat) (cI (plA B N x T).1) = D3 at hM2 f2 g2 v99
    rw [show gI D3 91 (16 : Int32).toNatClampNeg = cI (T 0 0) from hM2.1 0 (by omega), cL1, cI_sub]
    refine ok_biI ((mread_ok 0 (T 0 0 - 1) g2 rfl rfl (by omega) (by omega) (by omega) (by omega)).mono fun r k => ?_)
    obtain ⟨y, D4⟩ := r
    obtain ⟨e, k7, k8⟩ := k
    obtain rfl : y = cI (vz (gtA B N (plA B N x T).2 T)) := e
    have k7' : MC D4 B N (tkX B N (gtA B N (plA B N x T).2 T).2) := k7
    have k8' : fM D3 D4 := k8
    have hM4 := hM2.fM k8'
    have q16 : gI D4 91 (16 : Int32).toNatClampNeg = cI (T 0 0) := hM4.1 0 (by omega)
    dsimp only
    rw [e_gd (by decide), e_gd (by decide), show gI D4 91 (17 : Int32).toNatClampNeg = cI (T 0 1) from hM4.1 1 (by omega), cI_sub]
    refine ok_biI ((mnow_ok 0 (T 0 1 - 1) k7' rfl rfl (by omega) (by omega) (by omega) (by omega)).mono fun r k => ?_)
    obtain ⟨y, D5⟩ := r
    obtain ⟨e, k9, k10⟩ := k
    obtain rfl : y = cI (vz (gtB B N (plA B N x T).2 T)) := e
    have k9' : MC D5 B N (gtB B N (plA B N x T).2 T).2 := k9
    have k10' : fM D4 D5 := k10
    have hM5 := hM4.fM k10'
    have va : vz (gtA B N (plA B N x T).2 T) = (gtA B N (plA B N x T).2 T).1 := vz_0
    have vb : vz (gtB B N (plA B N x T).2 T) = (gtB B N (plA B N x T).2 T).1 := vz_0
    have ev : T 0 0 * vz (gtB B N (plA B N x T).2 T) + vz (gtA B N (plA B N x T).2 T) = gtV B N (plA B N x T).2 T := by rw [va, vb, Int.mul_comm]; rfl
    dsimp only
    rw [e_gd (cI_inT (by omega) (by omega) (by omega)), e_let, q16, cI_mul, cI_add, ev]
    have hM6 : MH (pI D5 100 (13 + (T 0 4).toNat) (cI (gtV B N (plA B N x T).2 T))) T := fMd hM5 fM.rf (Or.inr (by omega))
    have f6 : mF D (pI D5 100 (13 + (T 0 4).toNat) (cI (gtV B N (plA B N x T).2 T))) := (f2.tr (mF.of (k8'.tr k10'))).wr (Or.inr (Or.inr (Or.inl ⟨by omega, by omega, by omega⟩)))
    have g6 := k9'.wr (k := 100) (j := 13 + (T 0 4).toNat) (v := cI (gtV B N (plA B N x T).2 T)) (by omega) (by omega)
    have v99' : gI (pI D5 100 (13 + (T 0 4).toNat) (cI (gtV B N (plA B N x T).2 T))) 99 (13 + (T 0 4).toNat) = cI (plA B N x T).1 := (gI_fr (by omega)).trans (((k8'.tr k10').1 _ _ (by omega)).trans v99)
    have v100 : gI (pI D5 100 (13 + (T 0 4).toNat) (cI (gtV B N (plA B N x T).2 T))) 100 (13 + (T 0 4).toNat) = cI (gtV B N (plA B N x T).2 T) := gI_eq
    generalize pI D5 100 (13 + (T 0 4).toNat) (cI (gtV B N (plA B N x T).2 T)) = D6 at hM6 f6 g6 v99' v100
    have go : ∀ D7 : aD, MC D7 B N (plE B N x T) → fM D6 D7 → Ok (J_X12_readPlant_112 (cI (13 + T 0 4)) D7) (mOK D B N (scX B N (plO B N x T).2, plW T (plA B N x T).1 (gtV B N (plA B N x T).2 T) (plO B N x T).1)) := fun D7 a b =>
      m112_ok (x := x) (plE B N x T) a (f6.tr (mF.of b)) hT z (fun _ => ⟨hM6.fM b, (b.1 _ _ (by omega)).trans v99', (b.1 _ _ (by omega)).trans v100⟩) ((b.1 _ _ (by omega)).trans (hM6.1 4 (by omega))) ((b.1 _ _ (by omega)).trans (hM6.1 3 (by omega)))
    by_cases w : (gtB B N (plA B N x T).2 T).2.1 = 0
    · have ec : ((gtV B N (plA B N x T).2 T).toNat : Int) = gtV B N (plA B N x T).2 T := by omega
      have hh := mhas_eq (D := D6) (T := T) (c := (gtV B N (plA B N x T).2 T).toNat) (by omega) (by omega) hM6 hT (by omega)
      rw [ec] at hh
      rw [if_neg (show ¬ (gI D6 88 25 ≠ 0) by rw [ne_eq, bz g6]; exact fun y => y w), e_gd (by decide), e_gd (cI_inT (by omega) (by omega) (by omega)), show gI D6 91 (20 : Int32).toNatClampNeg = cI (T 0 4) from hM6.1 4 (by omega), v100, hh, e_bi]
      by_cases u : takenN T (gtV B N (plA B N x T).2 T).toNat = true
      · rw [if_pos u, if_neg (show ¬ (cI 1 = 0) by decide)]
        refine ok_bindI ((mwrong_ok 5 g6 rfl (by omega) (by omega)).mono fun D7 k => go D7 ?_ k.2)
        unfold plE
        rw [if_pos u]
        exact k.1
      · rw [if_neg u, if_pos (show cI 0 = 0 from rfl)]
        refine go D6 ?_ fM.rf
        unfold plE
        rw [if_neg u]
        exact g6
    · rw [if_pos (show gI D6 88 25 ≠ 0 by rw [ne_eq, bz g6]; exact w)]
      refine go D6 ?_ fM.rf
      unfold plE
      rw [fl_f w, ite_self]
      exact g6
  · obtain ⟨e, k4⟩ := k2 z
    obtain rfl : y = cI 0 := e
    rw [if_neg (show ¬ (cI 0 ≠ 0) from fun y => y rfl), if_neg z]
    exact ok_someI (mOK.fl (by omega) k4 (mF.of k3'))
theorem mmask_ok {D : aD} {B : Nat → Int} {N : Nat} {x : aX} {T : aT} (h : MC D B N x) (h0 : x.1 = 0) (hM : MH D T) (hT : TOKp T) : Ok (f_X12_readMask D) (mOK D B N (mkX B N x T)) := by
  have hq := hT.1
  have ra := kh_r (B := B) (N := N) (c := T 0 2) (x := tkX B N x) (by omega)
  have rb := kh_r (B := B) (N := N) (c := T 0 2) (x := tkX B N (plA B N x T).2) (by omega)
  have ra' : 0 ≤ (plA B N x T).1 ∧ (plA B N x T).1 ≤ 5 := ⟨ra.1, by have := ra.2.1; show (khX B N (T 0 2) (tkX B N x)).1 ≤ 5; omega⟩
  have rb' : 0 ≤ (mkB B N x T).1 ∧ (mkB B N x T).1 ≤ 5 := ⟨rb.1, by have := rb.2.1; show (khX B N (T 0 2) (tkX B N (plA B N x T).2)).1 ≤ 5; omega⟩
  have eP : (36 : Int) + 6 * (plA B N x T).1 + (mkB B N x T).1 = ((36 + mkP B N x T : Nat) : Int) := by unfold mkP; omega
  have lP : mkP B N x T < 36 := by unfold mkP; omega
  unfold f_X12_readMask
  refine ok_bindI ((mstepX_ok h h0).mono fun D1 k => ?_)
  have hM1 := hM.fM k.2
  refine ok_biI ((mrone_ok 2 (T 0 2) k.1 rfl (Or.inl rfl) (hM1.1 2 (by omega)) (by omega) (by omega)).mono fun r k' => ?_)
  obtain ⟨y, D2⟩ := r
  obtain ⟨e, k3, k4⟩ := k'
  obtain rfl : y = cI (vz (plA B N x T)) := e
  have ea : vz (plA B N x T) = (plA B N x T).1 := vz_k
  rw [ea]
  have k3' : MC D2 B N (tkX B N (plA B N x T).2) := k3
  have k4' : fM D1 D2 := k4
  have hM2 := hM1.fM k4'
  dsimp only
  refine ok_biI ((mone_ok 2 (T 0 2) k3' rfl (Or.inl rfl) (hM2.1 2 (by omega)) (by omega) (by omega)).mono fun r k' => ?_)
  obtain ⟨y, D3⟩ := r
  obtain ⟨e, k5, k6⟩ := k'
  obtain rfl : y = cI (vz (mkB B N x T)) := e
  have eb : vz (mkB B N x T) = (mkB B N x T).1 := vz_k
  rw [eb]
  have k5' : MC D3 B N (mkB B N x T).2 := k5
  have k6' : fM D2 D3 := k6
  have hM3 := hM2.fM k6'
  have f3 : fM D D3 := (k.2.tr k4').tr k6'
  have e36 : (36 : Int32) + 6 * cI (plA B N x T).1 + cI (mkB B N x T).1 = cI ((36 + mkP B N x T : Nat) : Int) := by rw [cL36, cL6, cI_mul, cI_add, cI_add, eP]
  dsimp only
  rw [e36, e_let]
  have c103 : gI D3 103 (36 + mkP B N x T) = cI (T 12 (mkP B N x T)) := hM3.2.2.2.2 _ lP
  have tb := hT.2.2.2.2.2 (mkP B N x T) lP
  have e1 : (((36 + mkP B N x T : Nat) : Int)).toNat = 36 + mkP B N x T := by omega
  have go : ∀ D4 : aD, MC D4 B N (mkC B N x T) → fM D3 D4 → Ok (J_X12_readMask_52 (cI ((36 + mkP B N x T : Nat) : Int)) D4) (mOK D B N (mkX B N x T)) := fun D4 a b => by
    unfold J_X12_readMask_52
    have hM4 := hM3.fM b
    by_cases z : (mkC B N x T).1 = 0
    · rw [if_pos (show gI D4 88 25 = 0 by rw [bz a]; exact z)]
      refine ok_bindI ((mstepX_ok a z).mono fun D5 q => ?_)
      refine ok_biI ((mread_ok 1 100 q.1 rfl rfl (by omega) (by omega) (by omega) (by omega)).mono fun r k' => ?_)
      obtain ⟨y, D6⟩ := r
      obtain ⟨e, k7, k8⟩ := k'
      obtain rfl : y = cI (vz (nmX B N 1 100 (mkC B N x T))) := e
      have k8' : fM D5 D6 := k8
      have f6 : fM D3 D6 := (b.tr q.2).tr k8'
      have k7' : MC D6 B N (tkX B N (nmX B N 1 100 (mkC B N x T)).2) := k7
      dsimp only
      rw [e_gd (cI_inT (by omega) (by omega) (by omega)), e_let, cI_nat (by omega) (by omega), e1]
      refine ok_someI ⟨_, rfl, k7'.wr (by omega) (by omega), (mF.of (f3.tr f6)).wr (Or.inr (Or.inr (Or.inr (Or.inr ⟨rfl, by omega⟩)))), fun w => ?_⟩
      have w1 : (nmX B N 1 100 (mkC B N x T)).2.1 = 0 := tk_1.symm.trans (sc_0 w)
      rw [vz_ok w1]
      exact (hM3.fM f6).mask
    · rw [if_neg (show ¬ (gI D4 88 25 = 0) by rw [bz a]; exact z)]
      have e : (mkX B N x T).1 = mkC B N x T := by
        unfold mkX
        rw [nm_f z]
        dsimp only
        rw [tk_f z, sc_f z]
      exact ok_someI ⟨mkC B N x T, by rw [sc_f z, e], a, mF.of (f3.tr b), fun w => absurd (by rw [e] at w; exact w) z⟩
  have bad : (plA B N x T).1 = (mkB B N x T).1 ∨ 0 < T 12 (mkP B N x T) → Ok (J_X12_readMask_47 (cI ((36 + mkP B N x T : Nat) : Int)) D3) (mOK D B N (mkX B N x T)) := fun w => by
    unfold J_X12_readMask_47
    refine ok_bindI ((mwrong_ok 5 k5' rfl (by omega) (by omega)).mono fun D4 q => go D4 ?_ q.2)
    unfold mkC
    rw [if_pos w]
    exact q.1
  by_cases z : (mkB B N x T).2.1 = 0
  · rw [if_neg (show ¬ (gI D3 88 25 ≠ 0) by rw [ne_eq, bz k5']; exact fun y => y z)]
    by_cases w1 : (plA B N x T).1 = (mkB B N x T).1
    · rw [if_pos (show cI (plA B N x T).1 = cI (mkB B N x T).1 by rw [w1])]
      exact bad (Or.inl w1)
    · rw [if_neg (show ¬ (cI (plA B N x T).1 = cI (mkB B N x T).1) by rw [cI_eq (by omega) (by omega) (by omega) (by omega)]; exact w1), e_gd (cI_inT (by omega) (by omega) (by omega)), cI_nat (by omega) (by omega), e1, c103]
      by_cases w2 : 0 < T 12 (mkP B N x T)
      · rw [if_neg (show ¬ (cI (T 12 (mkP B N x T)) ≤ 0) by rw [cL0, cI_le (by omega) (by omega) (by omega) (by omega)]; omega)]
        exact bad (Or.inr w2)
      · rw [if_pos (show cI (T 12 (mkP B N x T)) ≤ 0 by rw [cL0, cI_le (by omega) (by omega) (by omega) (by omega)]; omega)]
        refine go D3 ?_ fM.rf
        unfold mkC
        rw [if_neg (by omega)]
        exact k5'
  · rw [if_pos (show gI D3 88 25 ≠ 0 by rw [ne_eq, bz k5']; exact z)]
    refine go D3 ?_ fM.rf
    unfold mkC
    rw [fl_f z, ite_self]
    exact k5'
theorem monce_ok {D : aD} {B : Nat → Int} {N : Nat} {x : aX} {T : aT} (i : Nat) (top : Int) (h : MC D B N x) (h0 : x.1 = 0) (hM : MH D T) (hT : TOKp T) (hi : i < 4) (ht : gI D 90 i = cI top) (t1 : 0 ≤ top) (t2 : top ≤ 99) : Ok (f_X12_readOnce (cI (i : Int)) D) (mOK D B N (stX B N top (6 + i) x T)) := by
  unfold f_X12_readOnce
  refine ok_bindI ((mstepX_ok h h0).mono fun D1 k => ?_)
  have hM1 := hM.fM k.2
  have e1 : ((i : Int)).toNat = i := by omega
  have e2 : (22 : Int32) + cI (i : Int) = cI ((16 + (6 + i) : Nat) : Int) := by rw [show (22 : Int32) = cI 22 from rfl, cI_add]; congr 1; omega
  have e3 : (((16 + (6 + i) : Nat) : Int)).toNat = 16 + (6 + i) := by omega
  rw [if_neg (show ¬ (cI (i : Int) < 0) by rw [cL0, cI_lt (by omega) (by omega) (by omega) (by omega)]; omega), e_gd (cI_inT (by omega) (by omega) (by omega)), cI_nat (by omega) (by omega), e1, (k.2.1 _ _ (by omega)).trans ht]
  refine ok_biI ((mread_ok 0 top k.1 rfl rfl (by omega) (by omega) (by omega) (by omega)).mono fun r k' => ?_)
  obtain ⟨y, D2⟩ := r
  obtain ⟨e, k3, k4⟩ := k'
  obtain rfl : y = cI (vz (nmX B N 0 top x)) := e
  have ea : vz (nmX B N 0 top x) = (nmX B N 0 top x).1 := vz_0
  have k4' : fM D1 D2 := k4
  have k3' : MC D2 B N (tkX B N (nmX B N 0 top x).2) := k3
  dsimp only
  rw [ea, e2, e_gd (cI_inT (by omega) (by omega) (by omega)), e_let, cI_nat (by omega) (by omega), e3]
  exact ok_someI ⟨_, rfl, k3'.wr (by omega) (by omega), (mF.of (k.2.tr k4')).wr (Or.inl ⟨rfl, by omega⟩), fun _ => (hM1.fM k4').set0 (by omega)⟩
theorem mwinds_ok {D : aD} {B : Nat → Int} {N : Nat} {x : aX} {T : aT} (h : MC D B N x) (h0 : x.1 = 0) (hM : MH D T) (hT : TOKp T) : Ok (f_X12_readOnce (cI (-1)) D) (mOK D B N (wiX B N x T)) := by
  unfold f_X12_readOnce
  refine ok_bindI ((mstepX_ok h h0).mono fun D1 k => ?_)
  have hM1 := hM.fM k.2
  rw [if_pos (show cI (-1) < 0 by decide)]
  unfold J_X12_readOnce_31
  refine ok_bindI ((ok_lp (K := fun D' => MC D' B N (tkX B N (wdX B N x T 5).1) ∧ MH D' (wdX B N x T 5).2 ∧ mF D D') (fun i t => t.1 = cI (i : Int) ∧ MC t.2 B N (tkX B N (wdX B N x T i).1) ∧ MH t.2 (wdX B N x T i).2 ∧ mF D t.2) 5 (by omega) ⟨rfl, k.1, hM1, mF.of k.2⟩ ?_).mono ?_)
  · rintro i ⟨v, D2⟩ hi ⟨rfl, g1, g2, g3⟩
    show Ok (B_X12_readOnce_31 (cI (i : Int)) D2) _
    have g1' : MC D2 B N (tkX B N (wdX B N x T i).1) := g1
    have g2' : MH D2 (wdX B N x T i).2 := g2
    have g3' : mF D D2 := g3
    unfold B_X12_readOnce_31
    by_cases c : i < 5
    · rw [if_neg (show ¬ (5 ≤ cI (i : Int)) by rw [cL5, cI_le (by omega) (by omega) (by omega) (by omega)]; omega)]
      refine ok_biI ((mread_ok 0 99 g1' rfl rfl (by omega) (by omega) (by omega) (by omega)).mono fun r k' => ?_)
      obtain ⟨y, D3⟩ := r
      obtain ⟨e, k3, k4⟩ := k'
      obtain rfl : y = cI (vz (nmX B N 0 99 (wdX B N x T i).1)) := e
      have ea : vz (nmX B N 0 99 (wdX B N x T i).1) = (nmX B N 0 99 (wdX B N x T i).1).1 := vz_0
      have k3' : MC D3 B N (tkX B N (nmX B N 0 99 (wdX B N x T i).1).2) := k3
      have k4' : fM D2 D3 := k4
      have e2 : (26 : Int32) + cI (i : Int) = cI ((16 + (10 + i) : Nat) : Int) := by rw [show (26 : Int32) = cI 26 from rfl, cI_add]; congr 1; omega
      have e3 : (((16 + (10 + i) : Nat) : Int)).toNat = 16 + (10 + i) := by omega
      dsimp only
      rw [ea, e2, e_gd (cI_inT (by omega) (by omega) (by omega)), e_let, e_let, cI_nat (by omega) (by omega), e3]
      exact ok_someI (Or.inl ⟨_, rfl, c, cI_add i 1, k3'.wr (by omega) (by omega), (g2'.fM k4').set0 (by omega), (g3'.tr (mF.of k4')).wr (Or.inl ⟨rfl, by omega⟩)⟩)
    · obtain rfl : i = 5 := by omega
      rw [if_pos (show 5 ≤ cI ((5 : Nat) : Int) by decide)]
      exact ok_someI (Or.inr ⟨_, rfl, g1', g2', g3'⟩)
  · rintro D2 ⟨g1, g2, g3⟩
    unfold J_X12_readOnce_58
    exact ok_someI ⟨_, rfl, g1, g3, fun _ => g2⟩
theorem mtownl_ok {D : aD} {B : Nat → Int} {N : Nat} {x : aX} {T : aT} (h : MC D B N x) (h0 : x.1 = 0) (hM : MH D T) (hT : TOKp T) : Ok (f_X12_readTown D) (mOK D B N (twX B N x T)) := by
  unfold f_X12_readTown
  refine ok_bindI ((mstepX_ok h h0).mono fun D1 k => ?_)
  have hM1 := hM.fM k.2
  refine ok_biI ((mread_ok 2 8 k.1 rfl rfl (by omega) (by omega) (by omega) (by omega)).mono fun r k' => ?_)
  obtain ⟨y, D2⟩ := r
  obtain ⟨e, k3, k4⟩ := k'
  obtain rfl : y = cI (vz (nmX B N 2 8 x)) := e
  have k3' : MC D2 B N (tkX B N (nmX B N 2 8 x).2) := k3
  have k4' : fM D1 D2 := k4
  dsimp only
  rw [e_gd (by decide), e_let, show (16 : Int32).toNatClampNeg = 16 + 0 from rfl]
  have hM2 := (hM1.fM k4').set0 (j := 0) (v := vz (nmX B N 2 8 x)) (by omega)
  have f2 : mF D (pI D2 91 (16 + 0) (cI (vz (nmX B N 2 8 x)))) := (mF.of (k.2.tr k4')).wr (Or.inl ⟨rfl, by omega⟩)
  refine ok_biI ((mread_ok 2 8 (k3'.wr (k := 91) (j := 16 + 0) (v := cI (vz (nmX B N 2 8 x))) (by omega) (by omega)) rfl rfl (by omega) (by omega) (by omega) (by omega)).mono fun r k' => ?_)
  obtain ⟨y, D3⟩ := r
  obtain ⟨e, k5, k6⟩ := k'
  obtain rfl : y = cI (vz (nmX B N 2 8 (nmX B N 2 8 x).2)) := e
  have k5' : MC D3 B N (tkX B N (nmX B N 2 8 (nmX B N 2 8 x).2).2) := k5
  have k6' : fM (pI D2 91 (16 + 0) (cI (vz (nmX B N 2 8 x)))) D3 := k6
  dsimp only
  rw [e_gd (by decide), e_let, show (17 : Int32).toNatClampNeg = 16 + 1 from rfl]
  refine ok_someI ⟨_, rfl, k5'.wr (by omega) (by omega), (f2.tr (mF.of k6')).wr (Or.inl ⟨rfl, by omega⟩), fun w => ?_⟩
  have w1 : (nmX B N 2 8 (nmX B N 2 8 x).2).2.1 = 0 := tk_1.symm.trans (sc_0 w)
  have w2 : (nmX B N 2 8 x).2.1 = 0 := nm_0 w1
  have t := (hM2.fM k6').set0 (j := 1) (v := vz (nmX B N 2 8 (nmX B N 2 8 x).2)) (by omega)
  rw [vz_ok w1, vz_ok w2] at t
  rw [vz_ok w1]
  exact t
end ML2
