/-! town: the class's lines, one by one -/
section CLN
def dOK (D0 : aD) (B : Nat → Int) (N q : Nat) (r : aX × aT) (D : aD) : Prop := RD D B N q r.1 ∧ fD D0 D ∧ (r.1.1 = 0 → DP D r.2)
def gdX (B : Nat → Int) (N : Nat) (x : aX) (T : aT) : aX × aT := if T 0 3 < 5 then (scX B N (tkX B N x), tS T 0 3 (T 0 3 + 1)) else (flX 2 x, T)
theorem dOK.bad {D : aD} {B : Nat → Int} {N q : Nat} {x : aX} {T : aT} (h : RD D B N q x) : Ok ((f_X7_fail 2 D).bind (fun D_3 => some D_3)) (dOK D B N q (flX 2 x, T)) :=
  ok_bindI ((fail_ok 2 h rfl (by omega) (by omega)).mono fun D1 k => ok_someI ⟨k.1, fD.of k.2, fun y => absurd y (fl_1 (by omega))⟩)
theorem cgarden_ok {D : aD} {B : Nat → Int} {N q : Nat} {x : aX} {T : aT} (h : RD D B N q x) (hD : DP D T) (hT : TOKp T) : Ok (f_X7_readGarden D) (dOK D B N q (gdX B N x T)) := by
  have hq := hT.1
  have c3 := hD.2.2.1 3 (by omega) (by omega)
  unfold f_X7_readGarden gdX
  rw [c3]
  by_cases z : T 0 3 < 5
  · rw [if_pos (show cI (T 0 3) < 5 by rw [cL5, cI_lt (by omega) (by omega) (by omega) (by omega)]; exact z), if_pos z]
    refine ok_bindI ((close_ok h).mono fun D1 k => ?_)
    rw [e_let, k.2 21 3 (by omega), c3, cL1, cI_add]
    exact ok_someI ⟨k.1.wr (by omega) (by omega), (fD.of k.2).wr (by omega) (by omega), fun _ => (hD.f5 (by omega) k.2).set0 (Or.inl rfl)⟩
  · rw [if_neg (show ¬ (cI (T 0 3) < 5) by rw [cL5, cI_lt (by omega) (by omega) (by omega) (by omega)]; exact z), if_neg z]
    exact dOK.bad h
theorem cel_b {a b W H : Int} (w : 2 ≤ W) (a1 : 0 ≤ a) (a2 : a ≤ W - 1) (b1 : 0 ≤ b) (b2 : b ≤ H - 1) : 0 ≤ b * W + a ∧ b * W + a < W * H := by
  have e1 := Int.mul_le_mul_of_nonneg_right b2 (show 0 ≤ W by omega)
  have e2 := Int.mul_nonneg b1 (show 0 ≤ W by omega)
  have e3 : (H - 1) * W = W * H - W := by rw [Int.sub_mul, Int.one_mul, Int.mul_comm]
  omega
def gtA (B : Nat → Int) (N : Nat) (x : aX) (T : aT) : Int × aX := nmX B N 0 (T 0 0 - 1) x
def gtB (B : Nat → Int) (N : Nat) (x : aX) (T : aT) : Int × aX := nmX B N 0 (T 0 1 - 1) (gtA B N x T).2
def gtV (B : Nat → Int) (N : Nat) (x : aX) (T : aT) : Int := (gtB B N x T).1 * T 0 0 + (gtA B N x T).1
theorem gt_b {B : Nat → Int} {N : Nat} {x : aX} {T : aT} (hT : TOKp T) : 0 ≤ gtV B N x T ∧ gtV B N x T < T 0 0 * T 0 1 := by
  have hq := hT.1
  have a := nh_r (B := B) (N := N) (a := 0) (b := T 0 0 - 1) (x := tkX B N x) (by omega)
  have b := nh_r (B := B) (N := N) (a := 0) (b := T 0 1 - 1) (x := tkX B N (gtA B N x T).2) (by omega)
  exact cel_b (by omega) a.1 a.2 b.1 b.2
def gtX (B : Nat → Int) (N : Nat) (x : aX) (T : aT) : aX × aT := if T 0 5 < 5 then (scX B N (tkX B N (gtB B N x T).2), tS (tS T 11 (T 0 5).toNat (gtV B N x T)) 0 5 (T 0 5 + 1)) else (flX 2 x, T)
theorem cgate_ok {D : aD} {B : Nat → Int} {N q : Nat} {x : aX} {T : aT} (h : RD D B N q x) (hD : DP D T) (hT : TOKp T) : Ok (f_X7_readGate D) (dOK D B N q (gtX B N x T)) := by
  have hq := hT.1
  have c5 := hD.2.2.1 5 (by omega) (by omega)
  have gb := gt_b (B := B) (N := N) (x := x) hT
  unfold f_X7_readGate gtX
  rw [c5]
  by_cases z : T 0 5 < 5
  · rw [if_pos (show cI (T 0 5) < 5 by rw [cL5, cI_lt (by omega) (by omega) (by omega) (by omega)]; exact z), if_pos z]
    refine ok_biI ((cell_ok h hD.1 hD.2.1 (by omega) (by omega) (by omega) (by omega)).mono fun r k => ?_)
    obtain ⟨y, D1⟩ := r
    obtain ⟨e, k1, k2⟩ := k
    obtain rfl : y = cI (gtV B N x T) := e
    have k1' : RD D1 B N q (gtB B N x T).2 := k1
    have k2' : f56 D D1 := k2
    dsimp only
    rw [e_gd (cI_inT (by omega) (by omega) (by omega)), e_let, cI_nat (by omega) (by omega)]
    have hD1 : DP (pI D1 30 (T 0 5).toNat (cI (gtV B N x T))) T := (hD.f5 (by omega) k2').fr (by omega) (fun k j _ _ a _ _ => gI_fr (by omega))
    refine ok_bindI ((close_ok (k1'.wr (k := 30) (j := (T 0 5).toNat) (v := cI (gtV B N x T)) (by omega) (by omega))).mono fun D2 k => ?_)
    have hD2 := hD1.f5 (by omega) k.2
    rw [e_let, hD2.2.2.1 5 (by omega) (by omega), cL1, cI_add]
    refine ok_someI ⟨k.1.wr (by omega) (by omega), (((fD.of k2').wr (by omega) (by omega)).tr (fD.of k.2)).wr (by omega) (by omega), fun _ => hD2.gate (by omega) ((k.2 _ _ (by omega)).trans gI_eq)⟩
  · rw [if_neg (show ¬ (cI (T 0 5) < 5) by rw [cL5, cI_lt (by omega) (by omega) (by omega) (by omega)]; exact z), if_neg z]
    exact dOK.bad h
def plA (B : Nat → Int) (N : Nat) (x : aX) (T : aT) : Int × aX := khX B N (T 0 2) (tkX B N x)
def plE (B : Nat → Int) (N : Nat) (x : aX) (T : aT) : aX := if takenN T (gtV B N (plA B N x T).2 T).toNat = true then flX 5 (gtB B N (plA B N x T).2 T).2 else (gtB B N (plA B N x T).2 T).2
def plO (B : Nat → Int) (N : Nat) (x : aX) (T : aT) : Int × aX := owX B N (T 0 3) (tkX B N (plE B N x T))
def plX (B : Nat → Int) (N : Nat) (x : aX) (T : aT) : aX × aT := if T 0 4 < 12 then (scX B N (plO B N x T).2, plW T (plA B N x T).1 (gtV B N (plA B N x T).2 T) (plO B N x T).1) else (flX 2 x, T)
theorem cplant78_ok {D0 D : aD} {B : Nat → Int} {N q : Nat} {x : aX} {T : aT} (hT : TOKp T) (h : RD D B N q (plE B N x T)) (hD : DP D T) (f0 : fD D0 D) (z : T 0 4 < 12) (v27 : gI D 27 (T 0 4).toNat = cI (plA B N x T).1) : Ok (J_X7_readPlant_78 (cI (T 0 4)) (cI (gtV B N (plA B N x T).2 T)) D) (dOK D0 B N q (scX B N (plO B N x T).2, plW T (plA B N x T).1 (gtV B N (plA B N x T).2 T) (plO B N x T).1)) := by
  have hq := hT.1
  have gb := gt_b (B := B) (N := N) (x := (plA B N x T).2) hT
  unfold J_X7_readPlant_78
  rw [e_gd (cI_inT (by omega) (by omega) (by omega)), e_let, cI_nat (by omega) (by omega)]
  have hD1 : DP (pI D 28 (T 0 4).toNat (cI (gtV B N (plA B N x T).2 T))) T := hD.fr (by omega) (fun k j _ _ _ a _ => gI_fr (by omega))
  have h1 := h.wr (k := 28) (j := (T 0 4).toNat) (v := cI (gtV B N (plA B N x T).2 T)) (by omega) (by omega)
  refine ok_biI ((owner_ok h1 (hD1.2.2.1 3 (by omega) (by omega)) (by omega) (by omega)).mono fun r k => ?_)
  obtain ⟨y, D2⟩ := r
  obtain ⟨e, k1, k2⟩ := k
  obtain rfl : y = cI (plO B N x T).1 := e
  have k1' : RD D2 B N q (scX B N (plO B N x T).2) := k1
  have k2' : f56 (pI D 28 (T 0 4).toNat (cI (gtV B N (plA B N x T).2 T))) D2 := k2
  dsimp only
  rw [e_gd (cI_inT (by omega) (by omega) (by omega)), e_let, e_gd (cI_inT (by omega) (by omega) (by omega)), e_let, cI_nat (a := gtV B N (plA B N x T).2 T) (by omega) (by omega), e_let]
  have hD3 : DP (pI D2 29 (T 0 4).toNat (cI (plO B N x T).1)) T := (hD1.f5 (by omega) k2').fr (by omega) (fun k j _ _ _ a _ => gI_fr (by omega))
  rw [gI_fr (by omega), hD3.2.2.1 4 (by omega) (by omega), cL1, cI_add]
  refine ok_someI ⟨((k1'.wr (by omega) (by omega)).wr (by omega) (by omega)).wr (by omega) (by omega), (((((f0.wr (by omega) (by omega)).tr (fD.of k2')).wr (by omega) (by omega))).wr (by omega) (by omega)).wr (by omega) (by omega), fun _ => ?_⟩
  refine hD3.plant (by omega) (by omega) ?_ ?_ gI_eq
  · rw [gI_fr (by omega), k2' _ _ (by omega), gI_fr (by omega)]; exact v27
  · rw [gI_fr (by omega), k2' _ _ (by omega)]; exact gI_eq
theorem cplant_ok {D : aD} {B : Nat → Int} {N q : Nat} {x : aX} {T : aT} (h : RD D B N q x) (hD : DP D T) (hT : TOKp T) : Ok (f_X7_readPlant D) (dOK D B N q (plX B N x T)) := by
  have hq := hT.1
  have c4 := hD.2.2.1 4 (by omega) (by omega)
  unfold f_X7_readPlant plX
  rw [c4]
  by_cases z : T 0 4 < 12
  · have gb := gt_b (B := B) (N := N) (x := (plA B N x T).2) hT
    rw [if_pos (show cI (T 0 4) < 12 by rw [cL12, cI_lt (by omega) (by omega) (by omega) (by omega)]; exact z), if_pos z, e_let]
    refine ok_biI ((known_ok (T 0 2) h (hD.2.2.1 2 (by omega) (by omega)) (by omega) (by omega)).mono fun r k => ?_)
    obtain ⟨y, D1⟩ := r
    obtain ⟨e, k1, k2⟩ := k
    obtain rfl : y = cI (plA B N x T).1 := e
    have k1' : RD D1 B N q (plA B N x T).2 := k1
    have k2' : f56 D D1 := k2
    dsimp only
    rw [e_gd (cI_inT (by omega) (by omega) (by omega)), e_let, cI_nat (by omega) (by omega)]
    have hD1 : DP (pI D1 27 (T 0 4).toNat (cI (plA B N x T).1)) T := (hD.f5 (by omega) k2').fr (by omega) (fun k j _ _ _ a _ => gI_fr (by omega))
    have f1 := (fD.of k2').wr (k := 27) (j := (T 0 4).toNat) (v := cI (plA B N x T).1) (by omega) (by omega)
    refine ok_biI ((cell_ok (k1'.wr (k := 27) (j := (T 0 4).toNat) (v := cI (plA B N x T).1) (by omega) (by omega)) hD1.1 hD1.2.1 (by omega) (by omega) (by omega) (by omega)).mono fun r k => ?_)
    obtain ⟨y, D2⟩ := r
    obtain ⟨e, k3, k4⟩ := k
    obtain rfl : y = cI (gtV B N (plA B N x T).2 T) := e
    have k3' : RD D2 B N q (gtB B N (plA B N x T).2 T).2 := k3
    have k4' : f56 (pI D1 27 (T 0 4).toNat (cI (plA B N x T).1)) D2 := k4
    have hD2 := hD1.f5 (by omega) k4'
    have f2 := f1.tr (fD.of k4')
    have v27 : gI D2 27 (T 0 4).toNat = cI (plA B N x T).1 := (k4' _ _ (by omega)).trans gI_eq
    dsimp only
    have go : ∀ D3 : aD, RD D3 B N q (plE B N x T) → f56 D2 D3 → Ok (J_X7_readPlant_78 (cI (T 0 4)) (cI (gtV B N (plA B N x T).2 T)) D3) (dOK D B N q (scX B N (plO B N x T).2, plW T (plA B N x T).1 (gtV B N (plA B N x T).2 T) (plO B N x T).1)) := fun D3 a b =>
      cplant78_ok hT a (hD2.f5 (by omega) b) (f2.tr (fD.of b)) z ((b _ _ (by omega)).trans v27)
    by_cases w : (gtB B N (plA B N x T).2 T).2.1 = 0
    · rw [if_neg (show ¬ (gI D2 56 7 ≠ 0) by rw [ne_eq, fz k3']; exact fun y => y w), e_gd (cI_inT (by omega) (by omega) (by omega)), cI_nat (a := gtV B N (plA B N x T).2 T) (by omega) (by omega), hD2.2.2.2.2.2.2.2.2.2.2 (gtV B N (plA B N x T).2 T).toNat (by omega)]
      by_cases u : takenN T (gtV B N (plA B N x T).2 T).toNat = true
      · rw [if_pos u, if_neg (show ¬ (cI 1 = 0) by decide)]
        refine ok_bindI ((fail_ok 5 k3' rfl (by omega) (by omega)).mono fun D3 k5 => go D3 ?_ k5.2)
        unfold plE
        rw [if_pos u]
        exact k5.1
      · rw [if_neg u, if_pos (show cI 0 = 0 from rfl)]
        refine go D2 ?_ f56.rf
        unfold plE
        rw [if_neg u]
        exact k3'
    · rw [if_pos (show gI D2 56 7 ≠ 0 by rw [ne_eq, fz k3']; exact w)]
      refine go D2 ?_ f56.rf
      unfold plE
      rw [fl_f w, ite_self]
      exact k3'
  · rw [if_neg (show ¬ (cI (T 0 4) < 12) by rw [cL12, cI_lt (by omega) (by omega) (by omega) (by omega)]; exact z), if_neg z]
    exact dOK.bad h
def mkB (B : Nat → Int) (N : Nat) (x : aX) (T : aT) : Int × aX := khX B N (T 0 2) (tkX B N (plA B N x T).2)
def mkP (B : Nat → Int) (N : Nat) (x : aX) (T : aT) : Nat := (plA B N x T).1.toNat * 6 + (mkB B N x T).1.toNat
def mkC (B : Nat → Int) (N : Nat) (x : aX) (T : aT) : aX := if (plA B N x T).1 = (mkB B N x T).1 ∨ 0 < T 12 (mkP B N x T) then flX 5 (mkB B N x T).2 else (mkB B N x T).2
def mkX (B : Nat → Int) (N : Nat) (x : aX) (T : aT) : aX × aT := (scX B N (tkX B N (nmX B N 1 100 (mkC B N x T)).2), tS T 12 (mkP B N x T) (nmX B N 1 100 (mkC B N x T)).1)
theorem cmask_ok {D : aD} {B : Nat → Int} {N q : Nat} {x : aX} {T : aT} (h : RD D B N q x) (hD : DP D T) (hT : TOKp T) : Ok (f_X7_readMask D) (dOK D B N q (mkX B N x T)) := by
  have hq := hT.1
  have ra := kh_r (B := B) (N := N) (c := T 0 2) (x := tkX B N x) (by omega)
  have rb := kh_r (B := B) (N := N) (c := T 0 2) (x := tkX B N (plA B N x T).2) (by omega)
  have ra' : 0 ≤ (plA B N x T).1 ∧ (plA B N x T).1 ≤ 5 := ⟨ra.1, by have := ra.2.1; show (khX B N (T 0 2) (tkX B N x)).1 ≤ 5; omega⟩
  have rb' : 0 ≤ (mkB B N x T).1 ∧ (mkB B N x T).1 ≤ 5 := ⟨rb.1, by have := rb.2.1; show (khX B N (T 0 2) (tkX B N (plA B N x T).2)).1 ≤ 5; omega⟩
  have eP : (((mkP B N x T : Nat)) : Int) = (plA B N x T).1 * 6 + (mkB B N x T).1 := by unfold mkP; omega
  unfold f_X7_readMask
  refine ok_biI ((known_ok (T 0 2) h (hD.2.2.1 2 (by omega) (by omega)) (by omega) (by omega)).mono fun r k => ?_)
  obtain ⟨y, D1⟩ := r
  obtain ⟨e, k1, k2⟩ := k
  obtain rfl : y = cI (plA B N x T).1 := e
  have k1' : RD D1 B N q (plA B N x T).2 := k1
  have k2' : f56 D D1 := k2
  have hD1 := hD.f5 (by omega) k2'
  dsimp only
  refine ok_biI ((known_ok (T 0 2) k1' (hD1.2.2.1 2 (by omega) (by omega)) (by omega) (by omega)).mono fun r k => ?_)
  obtain ⟨y, D2⟩ := r
  obtain ⟨e, k3, k4⟩ := k
  obtain rfl : y = cI (mkB B N x T).1 := e
  have k3' : RD D2 B N q (mkB B N x T).2 := k3
  have k4' : f56 D1 D2 := k4
  have hD2 := hD1.f5 (by omega) k4'
  have f2 := (fD.of k2').tr (fD.of k4')
  dsimp only
  rw [cL6, cI_mul, cI_add, ← eP, e_let]
  have c31 : gI D2 31 (mkP B N x T) = cI (T 12 (mkP B N x T)) := hD2.2.2.2.2.2.2.2.1 _ (by omega)
  have tb := hT.2.2.2.2.2 (mkP B N x T) (by omega)
  have e1 : ((mkP B N x T : Nat) : Int).toNat = mkP B N x T := by omega
  have go : ∀ D3 : aD, RD D3 B N q (mkC B N x T) → f56 D2 D3 → Ok (J_X7_readMask_53 (cI (mkB B N x T).1) (cI (mkP B N x T : Nat)) D3) (dOK D B N q (mkX B N x T)) := fun D3 a b => by
    unfold J_X7_readMask_53
    have hD3 := hD2.f5 (by omega) b
    refine ok_biI ((number_ok 1 100 a rfl rfl (by omega) (by omega) (by omega) (by omega)).mono fun r k => ?_)
    obtain ⟨y, D4⟩ := r
    obtain ⟨e, k5, k6⟩ := k
    obtain rfl : y = cI (nmX B N 1 100 (mkC B N x T)).1 := e
    have k6' : f56 D3 D4 := k6
    have hD4 := hD3.f5 (by omega) k6'
    have k5' : RD D4 B N q (nmX B N 1 100 (mkC B N x T)).2 := k5
    dsimp only
    rw [e_gd (cI_inT (by omega) (by omega) (by omega)), e_let, e_gd (cI_inT (by omega) (by omega) (by omega)), e_let, cI_nat (by omega) (by omega), cI_nat (a := (mkB B N x T).1) (by omega) (by omega), e1]
    refine ok_bindI ((close_ok ((k5'.wr (k := 31) (j := mkP B N x T) (v := cI (nmX B N 1 100 (mkC B N x T)).1) (by omega) (by omega)).wr (k := 32) (j := (mkB B N x T).1.toNat) (v := 1) (by omega) (by omega))).mono fun D5 k7 => ok_someI ?_)
    refine ⟨k7.1, (((((f2.tr (fD.of b)).tr (fD.of k6')).wr (by omega) (by omega)).wr (by omega) (by omega)).tr (fD.of k7.2)), fun _ => ?_⟩
    exact DP.f5 (T := (mkX B N x T).2) (by show tS T 12 (mkP B N x T) (nmX B N 1 100 (mkC B N x T)).1 0 2 ≤ 6; rw [tS_ne (by omega)]; omega) (hD4.mask (a := (plA B N x T).1.toNat) (b := (mkB B N x T).1.toNat) (by omega) (by omega)) k7.2
  have bad : (plA B N x T).1 = (mkB B N x T).1 ∨ 0 < T 12 (mkP B N x T) → Ok (J_X7_readMask_48 (cI (mkB B N x T).1) (cI (mkP B N x T : Nat)) D2) (dOK D B N q (mkX B N x T)) := fun w => by
    unfold J_X7_readMask_48
    refine ok_bindI ((fail_ok 5 k3' rfl (by omega) (by omega)).mono fun D3 k5 => go D3 ?_ k5.2)
    unfold mkC
    rw [if_pos w]
    exact k5.1
  by_cases w1 : (plA B N x T).1 = (mkB B N x T).1
  · rw [if_pos (show cI (plA B N x T).1 = cI (mkB B N x T).1 by rw [w1])]
    exact bad (Or.inl w1)
  · rw [if_neg (show ¬ (cI (plA B N x T).1 = cI (mkB B N x T).1) by rw [cI_eq (by omega) (by omega) (by omega) (by omega)]; exact w1), e_gd (cI_inT (by omega) (by omega) (by omega)), cI_nat (by omega) (by omega), e1, c31]
    by_cases w2 : 0 < T 12 (mkP B N x T)
    · rw [if_neg (show ¬ (cI (T 12 (mkP B N x T)) ≤ 0) by rw [cL0, cI_le (by omega) (by omega) (by omega) (by omega)]; omega)]
      exact bad (Or.inr w2)
    · rw [if_pos (show cI (T 12 (mkP B N x T)) ≤ 0 by rw [cL0, cI_le (by omega) (by omega) (by omega) (by omega)]; omega)]
      refine go D2 ?_ f56.rf
      unfold mkC
      rw [if_neg (by omega)]
      exact k3'
end CLN
