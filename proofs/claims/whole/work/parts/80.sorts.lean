/-! town: the class's lines: sorts, settings -/
section CSO
def s1X (B : Nat → Int) (N : Nat) (x : aX) : Int × aX := nmX B N 1 99 x
def s2X (B : Nat → Int) (N : Nat) (x : aX) : Int × aX := nmX B N 0 51 (s1X B N x).2
def s3X (B : Nat → Int) (N : Nat) (x : aX) : Int × aX := nmX B N (s2X B N x).1 51 (s2X B N x).2
def s4X (B : Nat → Int) (N : Nat) (x : aX) : Int × aX := nmX B N 0 23 (s3X B N x).2
def s5X (B : Nat → Int) (N : Nat) (x : aX) : Int × aX := nmX B N (s4X B N x).1 23 (s4X B N x).2
def s6X (B : Nat → Int) (N : Nat) (x : aX) : Int × aX := sgX B N 9 (tkX B N (s5X B N x).2)
def svX (B : Nat → Int) (N : Nat) (x : aX) (h : Int) (k : Nat) : Int := if k = 1 then (s1X B N x).1 else if k = 2 then (s2X B N x).1 else if k = 3 then (s3X B N x).1 else if k = 4 then (s4X B N x).1 else if k = 5 then (s5X B N x).1 else if k = 6 then (s6X B N x).1 else h
theorem s_r {B : Nat → Int} {N : Nat} {x : aX} : (1 ≤ (s1X B N x).1 ∧ (s1X B N x).1 ≤ 99) ∧ (0 ≤ (s2X B N x).1 ∧ (s2X B N x).1 ≤ 51) ∧ ((s2X B N x).1 ≤ (s3X B N x).1 ∧ (s3X B N x).1 ≤ 51) ∧ (0 ≤ (s4X B N x).1 ∧ (s4X B N x).1 ≤ 23) ∧ ((s4X B N x).1 ≤ (s5X B N x).1 ∧ (s5X B N x).1 ≤ 23) ∧ (-9 ≤ (s6X B N x).1 ∧ (s6X B N x).1 ≤ 9) := by
  have a2 := nh_r (B := B) (N := N) (a := 0) (b := 51) (x := tkX B N (s1X B N x).2) (by omega)
  have a4 := nh_r (B := B) (N := N) (a := 0) (b := 23) (x := tkX B N (s3X B N x).2) (by omega)
  refine ⟨nh_r (by omega), a2, nh_r a2.2, a4, nh_r a4.2, ?_⟩
  unfold s6X sgX
  split
  · have a := nh_r (B := B) (N := N) (a := 0) (b := 9) (x := tkX B N (tkX B N (s5X B N x).2)) (by omega)
    dsimp only
    omega
  · have a := nh_r (B := B) (N := N) (a := 0) (b := 9) (x := tkX B N (s5X B N x).2) (by omega)
    omega
def soX (B : Nat → Int) (N : Nat) (h : Int) (x : aX) (T : aT) : aX × aT := if T 0 2 < 6 then (scX B N (tkX B N (s6X B N x).2), srT T (svX B N x h)) else (flX 2 x, T)
theorem csort_ok {D : aD} {B : Nat → Int} {N q : Nat} {x : aX} {T : aT} {vh : Int32} (hh : Int) (h : RD D B N q x) (hD : DP D T) (hT : TOKp T) (eh : vh = cI hh) (h01 : hh = 0 ∨ hh = 1) : Ok (f_X7_readSort vh D) (dOK D B N q (soX B N hh x T)) := by
  subst eh
  have hq := hT.1
  have c2 := hD.2.2.1 2 (by omega) (by omega)
  obtain ⟨r1, r2, r3, r4, r5, r6⟩ := s_r (B := B) (N := N) (x := x)
  unfold f_X7_readSort soX
  rw [c2]
  by_cases z : T 0 2 < 6
  · rw [if_pos (show cI (T 0 2) < 6 by rw [cL6, cI_lt (by omega) (by omega) (by omega) (by omega)]; exact z), if_pos z, e_gd (cI_inT (by omega) (by omega) (by omega)), e_gd (show aZ (cI hh) = true by rcases h01 with rfl | rfl <;> decide), e_let, cI_nat (by omega) (by omega)]
    have es : ((T 0 2).toNat : Int) = T 0 2 := by omega
    generalize hs : (T 0 2).toNat = s at es
    -- what is kept: DP, the rest, the fields told so far
    have stp : ∀ (D1 D2 : aD) (j : Nat) (v : Int32), (j ≠ 6 ∨ v = cI 0 ∨ v = cI 1) → DP D1 T → fD D D1 → f56 D1 D2 → DP (pI D2 (34 + s) j v) T ∧ fD D (pI D2 (34 + s) j v) := fun D1 D2 j v hz a b c =>
      ⟨(a.f5 (by omega) c).fr (by omega) (fun k j' _ _ _ _ y => gI_fr (by omega)), (b.tr (fD.of c)).wr' (by omega) (by omega) (Or.inr hz)⟩
    have g0 := stp D D 6 (cI hh) (Or.inr (by rcases h01 with rfl | rfl; exact Or.inl rfl; exact Or.inr rfl)) hD fD.rf f56.rf
    have v6 : gI (pI D (34 + s) 6 (cI hh)) (34 + s) 6 = cI hh := gI_eq
    have q0 := h.wr (k := 34 + s) (j := 6) (v := cI hh) (by omega) (by omega)
    generalize pI D (34 + s) 6 (cI hh) = D1 at g0 v6 q0 ⊢
    refine ok_biI ((number_ok 1 99 q0 rfl rfl (by omega) (by omega) (by omega) (by omega)).mono fun r k => ?_)
    obtain ⟨y, D2⟩ := r
    obtain ⟨e, k1, k2⟩ := k
    obtain rfl : y = cI (s1X B N x).1 := e
    have k1' : RD D2 B N q (s1X B N x).2 := k1
    have k2' : f56 D1 D2 := k2
    dsimp only
    rw [e_let]
    have g1 := stp D1 D2 0 (cI (s1X B N x).1) (Or.inl (by omega)) g0.1 g0.2 k2'
    replace v6 : gI (pI D2 (34 + s) 0 (cI (s1X B N x).1)) (34 + s) 6 = cI hh := (gI_fr (by omega)).trans ((k2' _ _ (by omega)).trans v6)
    have v0 : gI (pI D2 (34 + s) 0 (cI (s1X B N x).1)) (34 + s) 0 = cI (s1X B N x).1 := gI_eq
    have q1 := k1'.wr (k := 34 + s) (j := 0) (v := cI (s1X B N x).1) (by omega) (by omega)
    clear q0 g0 k1 k2 k1' k2'
    generalize pI D2 (34 + s) 0 (cI (s1X B N x).1) = D3 at g1 v6 v0 q1 ⊢
    refine ok_biI ((number_ok 0 51 q1 rfl rfl (by omega) (by omega) (by omega) (by omega)).mono fun r k => ?_)
    obtain ⟨y, D4⟩ := r
    obtain ⟨e, k1, k2⟩ := k
    obtain rfl : y = cI (s2X B N x).1 := e
    have k1' : RD D4 B N q (s2X B N x).2 := k1
    have k2' : f56 D3 D4 := k2
    dsimp only
    rw [e_let, gI_eq]
    have g2 := stp D3 D4 1 (cI (s2X B N x).1) (Or.inl (by omega)) g1.1 g1.2 k2'
    replace v6 : gI (pI D4 (34 + s) 1 (cI (s2X B N x).1)) (34 + s) 6 = cI hh := (gI_fr (by omega)).trans ((k2' _ _ (by omega)).trans v6)
    replace v0 : gI (pI D4 (34 + s) 1 (cI (s2X B N x).1)) (34 + s) 0 = cI (s1X B N x).1 := (gI_fr (by omega)).trans ((k2' _ _ (by omega)).trans v0)
    have v1 : gI (pI D4 (34 + s) 1 (cI (s2X B N x).1)) (34 + s) 1 = cI (s2X B N x).1 := gI_eq
    have q2 := k1'.wr (k := 34 + s) (j := 1) (v := cI (s2X B N x).1) (by omega) (by omega)
    clear q1 g1 k1 k2 k1' k2'
    generalize pI D4 (34 + s) 1 (cI (s2X B N x).1) = D5 at g2 v6 v0 v1 q2 ⊢
    refine ok_biI ((number_ok (s2X B N x).1 51 q2 rfl rfl (by omega) (by omega) (by omega) (by omega)).mono fun r k => ?_)
    obtain ⟨y, D6⟩ := r
    obtain ⟨e, k1, k2⟩ := k
    obtain rfl : y = cI (s3X B N x).1 := e
    have k1' : RD D6 B N q (s3X B N x).2 := k1
    have k2' : f56 D5 D6 := k2
    dsimp only
    rw [e_let]
    have g3 := stp D5 D6 2 (cI (s3X B N x).1) (Or.inl (by omega)) g2.1 g2.2 k2'
    replace v6 : gI (pI D6 (34 + s) 2 (cI (s3X B N x).1)) (34 + s) 6 = cI hh := (gI_fr (by omega)).trans ((k2' _ _ (by omega)).trans v6)
    replace v0 : gI (pI D6 (34 + s) 2 (cI (s3X B N x).1)) (34 + s) 0 = cI (s1X B N x).1 := (gI_fr (by omega)).trans ((k2' _ _ (by omega)).trans v0)
    replace v1 : gI (pI D6 (34 + s) 2 (cI (s3X B N x).1)) (34 + s) 1 = cI (s2X B N x).1 := (gI_fr (by omega)).trans ((k2' _ _ (by omega)).trans v1)
    have v2 : gI (pI D6 (34 + s) 2 (cI (s3X B N x).1)) (34 + s) 2 = cI (s3X B N x).1 := gI_eq
    have q3 := k1'.wr (k := 34 + s) (j := 2) (v := cI (s3X B N x).1) (by omega) (by omega)
    clear q2 g2 k1 k2 k1' k2'
    generalize pI D6 (34 + s) 2 (cI (s3X B N x).1) = D7 at g3 v6 v0 v1 v2 q3 ⊢
    refine ok_biI ((number_ok 0 23 q3 rfl rfl (by omega) (by omega) (by omega) (by omega)).mono fun r k => ?_)
    obtain ⟨y, D8⟩ := r
    obtain ⟨e, k1, k2⟩ := k
    obtain rfl : y = cI (s4X B N x).1 := e
    have k1' : RD D8 B N q (s4X B N x).2 := k1
    have k2' : f56 D7 D8 := k2
    dsimp only
    rw [e_let, gI_eq]
    have g4 := stp D7 D8 3 (cI (s4X B N x).1) (Or.inl (by omega)) g3.1 g3.2 k2'
    replace v6 : gI (pI D8 (34 + s) 3 (cI (s4X B N x).1)) (34 + s) 6 = cI hh := (gI_fr (by omega)).trans ((k2' _ _ (by omega)).trans v6)
    replace v0 : gI (pI D8 (34 + s) 3 (cI (s4X B N x).1)) (34 + s) 0 = cI (s1X B N x).1 := (gI_fr (by omega)).trans ((k2' _ _ (by omega)).trans v0)
    replace v1 : gI (pI D8 (34 + s) 3 (cI (s4X B N x).1)) (34 + s) 1 = cI (s2X B N x).1 := (gI_fr (by omega)).trans ((k2' _ _ (by omega)).trans v1)
    replace v2 : gI (pI D8 (34 + s) 3 (cI (s4X B N x).1)) (34 + s) 2 = cI (s3X B N x).1 := (gI_fr (by omega)).trans ((k2' _ _ (by omega)).trans v2)
    have v3 : gI (pI D8 (34 + s) 3 (cI (s4X B N x).1)) (34 + s) 3 = cI (s4X B N x).1 := gI_eq
    have q4 := k1'.wr (k := 34 + s) (j := 3) (v := cI (s4X B N x).1) (by omega) (by omega)
    clear q3 g3 k1 k2 k1' k2'
    generalize pI D8 (34 + s) 3 (cI (s4X B N x).1) = D9 at g4 v6 v0 v1 v2 v3 q4 ⊢
    refine ok_biI ((number_ok (s4X B N x).1 23 q4 rfl rfl (by omega) (by omega) (by omega) (by omega)).mono fun r k => ?_)
    obtain ⟨y, D10⟩ := r
    obtain ⟨e, k1, k2⟩ := k
    obtain rfl : y = cI (s5X B N x).1 := e
    have k1' : RD D10 B N q (s5X B N x).2 := k1
    have k2' : f56 D9 D10 := k2
    dsimp only
    rw [e_let]
    have g5 := stp D9 D10 4 (cI (s5X B N x).1) (Or.inl (by omega)) g4.1 g4.2 k2'
    replace v6 : gI (pI D10 (34 + s) 4 (cI (s5X B N x).1)) (34 + s) 6 = cI hh := (gI_fr (by omega)).trans ((k2' _ _ (by omega)).trans v6)
    replace v0 : gI (pI D10 (34 + s) 4 (cI (s5X B N x).1)) (34 + s) 0 = cI (s1X B N x).1 := (gI_fr (by omega)).trans ((k2' _ _ (by omega)).trans v0)
    replace v1 : gI (pI D10 (34 + s) 4 (cI (s5X B N x).1)) (34 + s) 1 = cI (s2X B N x).1 := (gI_fr (by omega)).trans ((k2' _ _ (by omega)).trans v1)
    replace v2 : gI (pI D10 (34 + s) 4 (cI (s5X B N x).1)) (34 + s) 2 = cI (s3X B N x).1 := (gI_fr (by omega)).trans ((k2' _ _ (by omega)).trans v2)
    replace v3 : gI (pI D10 (34 + s) 4 (cI (s5X B N x).1)) (34 + s) 3 = cI (s4X B N x).1 := (gI_fr (by omega)).trans ((k2' _ _ (by omega)).trans v3)
    have v4 : gI (pI D10 (34 + s) 4 (cI (s5X B N x).1)) (34 + s) 4 = cI (s5X B N x).1 := gI_eq
    have q5 := k1'.wr (k := 34 + s) (j := 4) (v := cI (s5X B N x).1) (by omega) (by omega)
    clear q4 g4 k1 k2 k1' k2'
    generalize pI D10 (34 + s) 4 (cI (s5X B N x).1) = D11 at g5 v6 v0 v1 v2 v3 v4 q5 ⊢
    refine ok_biI ((signed_ok 9 q5 rfl (by omega) (by omega)).mono fun r k => ?_)
    obtain ⟨y, D12⟩ := r
    obtain ⟨e, k1, k2⟩ := k
    obtain rfl : y = cI (s6X B N x).1 := e
    have k1' : RD D12 B N q (s6X B N x).2 := k1
    have k2' : f56 D11 D12 := k2
    dsimp only
    rw [e_let]
    have g6 := stp D11 D12 5 (cI (s6X B N x).1) (Or.inl (by omega)) g5.1 g5.2 k2'
    have q6 := k1'.wr (k := 34 + s) (j := 5) (v := cI (s6X B N x).1) (by omega) (by omega)
    refine ok_bindI ((close_ok q6).mono fun D13 k => ?_)
    have hD13 := g6.1.f5 (by omega) k.2
    rw [e_let, hD13.2.2.1 2 (by omega) (by omega), cL1, cI_add]
    refine ok_someI ⟨k.1.wr (by omega) (by omega), (g6.2.tr (fD.of k.2)).wr (by omega) (by omega), fun _ => hD13.sort (by omega) (fun f hf => ?_)⟩
    rw [hs]
    have b : ∀ j : Nat, j ≠ 5 → gI D13 (34 + s) j = gI D11 (34 + s) j := fun j hj => (k.2 _ _ (by omega)).trans ((gI_fr (by omega)).trans (k2' _ _ (by omega)))
    have e : f = 0 ∨ f = 1 ∨ f = 2 ∨ f = 3 ∨ f = 4 ∨ f = 5 ∨ f = 6 := by omega
    rcases e with rfl | rfl | rfl | rfl | rfl | rfl | rfl
    · exact (b _ (by omega)).trans v0
    · exact (b _ (by omega)).trans v1
    · exact (b _ (by omega)).trans v2
    · exact (b _ (by omega)).trans v3
    · exact (b _ (by omega)).trans v4
    · exact (k.2 _ _ (by omega)).trans gI_eq
    · exact (b _ (by omega)).trans v6
  · rw [if_neg (show ¬ (cI (T 0 2) < 6) by rw [cL6, cI_lt (by omega) (by omega) (by omega) (by omega)]; exact z), if_neg z]
    exact dOK.bad h
def stX (B : Nat → Int) (N : Nat) (top : Int) (j : Nat) (x : aX) (T : aT) : aX × aT := (scX B N (tkX B N (nmX B N 0 top x).2), tS T 0 j (nmX B N 0 top x).1)
theorem cset_ok {D0 D : aD} {B : Nat → Int} {N q : Nat} {x : aX} {T : aT} {vt : Int32} (top : Int) (j : Nat) (h : RD D B N q x) (f0 : f56 D0 D) (hD : DP D0 T) (hT : TOKp T) (et : vt = cI top) (t1 : 0 ≤ top) (t2 : top ≤ 99) (hj : 6 ≤ j ∧ j ≤ 9) : Ok (aBi (f_X7_number 0 vt D) (fun y_21 D_22 => aLet (pI D_22 21 j y_21) (fun D_23 => (f_X7_close D_23).bind (fun D_24 => some D_24)))) (dOK D0 B N q (stX B N top j x T)) := by
  have hq := hT.1
  refine ok_biI ((number_ok 0 top h rfl et (by omega) (by omega) (by omega) (by omega)).mono fun r k => ?_)
  obtain ⟨y, D1⟩ := r
  obtain ⟨e, k1, k2⟩ := k
  obtain rfl : y = cI (nmX B N 0 top x).1 := e
  have k1' : RD D1 B N q (nmX B N 0 top x).2 := k1
  have k2' : f56 D D1 := k2
  dsimp only
  rw [e_let]
  have hD1 := ((hD.f5 (by omega) f0).f5 (by omega) k2').set0 (v := (nmX B N 0 top x).1) (Or.inr hj)
  refine ok_bindI ((close_ok (k1'.wr (k := 21) (j := j) (v := cI (nmX B N 0 top x).1) (by omega) (by omega))).mono fun D2 k => ok_someI ⟨k.1, ((fD.of (f0.tr k2')).wr (by omega) (by omega)).tr (fD.of k.2), fun _ => ?_⟩)
  exact hD1.f5 (by show tS T 0 j (nmX B N 0 top x).1 0 2 ≤ 6; rw [tS_ne (by omega)]; omega) k.2
def wdX (B : Nat → Int) (N : Nat) (x : aX) (T : aT) : Nat → aX × aT
  | 0 => (x, T)
  | n + 1 => ((nmX B N 0 99 (wdX B N x T n).1).2, tS (wdX B N x T n).2 0 (10 + n) (nmX B N 0 99 (wdX B N x T n).1).1)
def wiX (B : Nat → Int) (N : Nat) (x : aX) (T : aT) : aX × aT := (scX B N (tkX B N (wdX B N x T 5).1), (wdX B N x T 5).2)
theorem wd_o {B : Nat → Int} {N : Nat} {x : aX} {T : aT} {k j : Nat} (h : ¬ (k = 0 ∧ 10 ≤ j)) : ∀ n : Nat, (wdX B N x T n).2 k j = T k j
  | 0 => rfl
  | n + 1 => by
    rw [wdX]
    dsimp only
    rw [tS_ne (by omega)]
    exact wd_o h n
theorem cwinds_ok {D0 D : aD} {B : Nat → Int} {N q : Nat} {x : aX} {T : aT} (h : RD D B N q x) (f0 : f56 D0 D) (hD : DP D0 T) (hT : TOKp T) : Ok (J_X7_readSetting_142 0 D) (dOK D0 B N q (wiX B N x T)) := by
  have hq := hT.1
  unfold J_X7_readSetting_142
  refine ok_bindI ((ok_lp (K := fun D' => RD D' B N q (wdX B N x T 5).1 ∧ DP D' (wdX B N x T 5).2 ∧ fD D0 D') (fun i t => t.1 = cI (i : Int) ∧ RD t.2 B N q (wdX B N x T i).1 ∧ DP t.2 (wdX B N x T i).2 ∧ fD D0 t.2) 5 (by omega) ⟨rfl, h, DP.f5 (T := T) (by omega) hD f0, fD.of f0⟩ ?_).mono ?_)
  · rintro i ⟨v, D1⟩ hi ⟨rfl, g1, g2, g3⟩
    show Ok (B_X7_readSetting_142 (cI (i : Int)) D1) _
    have g1' : RD D1 B N q (wdX B N x T i).1 := g1
    have g2' : DP D1 (wdX B N x T i).2 := g2
    have g3' : fD D0 D1 := g3
    unfold B_X7_readSetting_142
    by_cases c : i < 5
    · rw [if_neg (show ¬ (5 ≤ cI (i : Int)) by rw [cL5, cI_le (by omega) (by omega) (by omega) (by omega)]; omega)]
      refine ok_biI ((number_ok 0 99 g1' rfl rfl (by omega) (by omega) (by omega) (by omega)).mono fun r k => ?_)
      obtain ⟨y, D2⟩ := r
      obtain ⟨e, k1, k2⟩ := k
      obtain rfl : y = cI (nmX B N 0 99 (wdX B N x T i).1).1 := e
      have k1' : RD D2 B N q (nmX B N 0 99 (wdX B N x T i).1).2 := k1
      have k2' : f56 D1 D2 := k2
      have e1 : ((i : Int)).toNat = i := by omega
      dsimp only
      rw [e_gd (cI_inT (by omega) (by omega) (by omega)), e_let, e_let, cI_nat (by omega) (by omega), e1]
      exact ok_someI (Or.inl ⟨_, rfl, c, cI_add i 1, k1'.wr (by omega) (by omega), (g2'.f5 (by rw [wd_o (by omega)]; omega) k2').setw, (g3'.tr (fD.of k2')).wr (by omega) (by omega)⟩)
    · obtain rfl : i = 5 := by omega
      rw [if_pos (show 5 ≤ cI ((5 : Nat) : Int) by decide)]
      exact ok_someI (Or.inr ⟨_, rfl, g1', g2', g3'⟩)
  · rintro D1 ⟨g1, g2, g3⟩
    unfold J_X7_readSetting_169
    refine ok_bindI ((close_ok g1).mono fun D2 k => ok_someI ⟨k.1, g3.tr (fD.of k.2), fun _ => ?_⟩)
    exact g2.f5 (by show (wdX B N x T 5).2 0 2 ≤ 6; rw [wd_o (by omega)]; omega) k.2
end CSO
