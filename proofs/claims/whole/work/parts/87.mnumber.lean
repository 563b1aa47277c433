/-! town: the reference's reader, number by number -/
section MNU
def MC (D : aD) (B : Nat → Int) (N : Nat) (x : aX) : Prop := MB D B N ∧ gI D 88 25 = cI x.1 ∧ (0 ≤ x.1 ∧ x.1 ≤ 5) ∧ (x.1 ≠ 0 → gI D 88 26 = cI x.2.1) ∧ (x.1 = 0 → tkM D B N x.2.2.1 ∧ wfX B N x)
theorem MC.fr {D D' : aD} {B : Nat → Int} {N : Nat} {x : aX} (h : MC D B N x) (e : ∀ k j : Nat, k = 105 ∨ (k = 88 ∧ 19 ≤ j ∧ j ≤ 26) → gI D' k j = gI D k j) : MC D' B N x := by
  obtain ⟨a1, a2, a3, a4, a5⟩ := h
  refine ⟨a1.fr (e _ _ (by omega)) (fun j => e _ j (by omega)), (e _ _ (by omega)).trans a2, a3, fun z => (e _ _ (by omega)).trans (a4 z), fun z => ?_⟩
  obtain ⟨⟨b1, b2, b3, b4, b5⟩, b6⟩ := a5 z
  exact ⟨⟨(e _ _ (by omega)).trans b1, (e _ _ (by omega)).trans b2, (e _ _ (by omega)).trans b3, (e _ _ (by omega)).trans b4, fun u w => (e _ _ (by omega)).trans (b5 u w)⟩, b6⟩
theorem MC.wr {D : aD} {B : Nat → Int} {N k j : Nat} {x : aX} {v : Int32} (h : MC D B N x) (hk : k ≠ 105) (hk2 : k ≠ 88) : MC (pI D k j v) B N x := h.fr (fun k' j' a => gI_fr (by omega))
theorem bz {D : aD} {B : Nat → Int} {N : Nat} {x : aX} (h : MC D B N x) : (gI D 88 25 = 0) = (x.1 = 0) := by
  have w := h.2.2.1
  rw [h.2.1, cL0, cI_eq (by omega) (by omega) (by omega) (by omega)]
theorem mstepX_ok {D : aD} {B : Nat → Int} {N : Nat} {x : aX} (h : MC D B N x) (h0 : x.1 = 0) : Ok (f_X12_stepOn D) (fun D' => MC D' B N (tkX B N x) ∧ fM D D') := by
  obtain ⟨a1, a2, a3, a4, a5⟩ := h
  obtain ⟨b, w⟩ := a5 h0
  have we := wf_e w
  have ht := wf_tk w
  have t1 : (tkX B N x).1 = x.1 := tk_1
  have ts : (tkX B N x).2.2.1 = rnE B N bBk x.2.2.2 := by unfold tkX; rw [if_pos h0]
  refine (mstep_ok (e := x.2.2.2) a1 (by rw [b.2.2.1, w.2.2.2.1]) we.2).mono fun D' k => ?_
  obtain ⟨k1, k2, k3, k4⟩ := k
  refine ⟨⟨a1.fr k2.2.1 (fun j => k2.1 _ j (by omega)), by rw [k3, a2, t1], by rw [t1]; exact a3, fun z => absurd (t1.trans h0) z, fun _ => ⟨?_, ht⟩⟩, k2⟩
  rw [ts]
  exact k1
theorem mwrong_ok {D : aD} {B : Nat → Int} {N : Nat} {x : aX} {v : Int32} (c : Int) (h : MC D B N x) (hv : v = cI c) (h1 : 1 ≤ c) (h2 : c ≤ 5) : Ok (f_X12_wrong v D) (fun D' => MC D' B N (flX c x) ∧ fM D D') := by
  subst hv
  unfold f_X12_wrong
  by_cases z : x.1 = 0
  · have e : flX c x = (c, (x.2.2.1 : Int), x.2.2) := if_pos z
    rw [if_pos (show gI D 88 25 = 0 by rw [bz h]; exact z), e_let, gI_fr (by omega), (h.2.2.2.2 z).1.1, e_let, e]
    refine ok_someI ⟨⟨h.1.fr (by rw [gI_fr (by omega), gI_fr (by omega)]) (fun j => by rw [gI_fr (by omega), gI_fr (by omega)]), (gI_fr (by omega)).trans gI_eq, ⟨by show 0 ≤ c; omega, h2⟩, fun _ => gI_eq, fun y => absurd (show c = 0 from y) (by omega)⟩, (fM.rf.wr (by omega)).wr (by omega)⟩
  · rw [if_neg (show ¬ (gI D 88 25 = 0) by rw [bz h]; exact z), fl_f z]
    exact ok_someI ⟨h, fM.rf⟩
def vz (r : Int × aX) : Int := if r.2.1 = 0 then r.1 else 0
theorem m59_bad {D : aD} {B : Nat → Int} {N : Nat} {x : aX} (h : MC D B N x) (z : x.1 ≠ 0) : J_X12_numberNow_59 D = some (cI 0, D) := by
  unfold J_X12_numberNow_59
  rw [if_pos (show gI D 88 25 ≠ 0 by rw [ne_eq, bz h]; exact z)]
  rfl
theorem mnow_ok {D : aD} {B : Nat → Int} {N : Nat} {x : aX} {va vb : Int32} (a b : Int) (h : MC D B N x) (ea : va = cI a) (eb : vb = cI b) (ha : -1 ≤ a) (ha2 : a ≤ 10000) (hb : -1 ≤ b) (hb2 : b < 10000) : Ok (f_X12_numberNow va vb D) (fun r => r.1 = cI (vz (nhX B N a b x)) ∧ MC r.2 B N (nhX B N a b x).2 ∧ fM D r.2) := by
  subst ea eb
  have hN := h.1.1
  unfold f_X12_numberNow vz
  by_cases z : x.1 = 0
  · obtain ⟨⟨b1, b2, b3, b4, b5⟩, w⟩ := h.2.2.2.2 z
    have we := wf_e w
    have rk := kd_r B N x.2.2.1
    rw [if_pos (show gI D 88 25 = 0 by rw [bz h]; exact z), b4]
    have bad : ∀ c : Int, 1 ≤ c → c ≤ 5 → nhX B N a b x = (a, flX c x) → Ok ((f_X12_wrong (cI c) D).bind (fun D_2 => J_X12_numberNow_59 D_2)) (fun r => r.1 = cI (if (nhX B N a b x).2.1 = 0 then (nhX B N a b x).1 else 0) ∧ MC r.2 B N (nhX B N a b x).2 ∧ fM D r.2) := fun c c1 c2 e => by
      refine ok_bindI ((mwrong_ok c h rfl c1 c2).mono fun D1 k => ?_)
      have y : (flX c x).1 ≠ 0 := fl_1 (by omega)
      rw [m59_bad k.1 y, e, if_neg y]
      exact ok_someI ⟨rfl, k⟩
    by_cases k2 : kd B N x.2.2.1 = 2
    · have ey : ((x.2.2.2 : Int) - (x.2.2.1 : Int)) = ((x.2.2.2 - x.2.2.1 : Nat) : Int) := by omega
      have vb' := vl_b _ (wf_vl w k2)
      rw [if_pos (show cI (mkk (kd B N x.2.2.1)) = 2 by rw [k2]; rfl), b1, b2, ← w.2.2.2.1, cI_sub, ey]
      have bad2 : ¬ (x.2.2.2 - x.2.2.1 ≤ 4 ∧ a ≤ vlN B x.2.2.1 (x.2.2.2 - x.2.2.1) ∧ vlN B x.2.2.1 (x.2.2.2 - x.2.2.1) ≤ b) → nhX B N a b x = (a, flX 2 x) := fun y => by
        unfold nhX
        rw [if_pos z, if_pos k2, if_neg y]
      by_cases c : x.2.2.2 - x.2.2.1 ≤ 4
      · have p := p10 c
        rw [if_neg (show ¬ (4 < cI ((x.2.2.2 - x.2.2.1 : Nat) : Int)) by rw [cL4, cI_lt (by omega) (by omega) (by omega) (by omega)]; omega), b5 k2 (by rw [← w.2.2.2.1]; exact c), ← w.2.2.2.1]
        by_cases c1 : vlN B x.2.2.1 (x.2.2.2 - x.2.2.1) < a
        · rw [if_pos (show cI (vlN B x.2.2.1 (x.2.2.2 - x.2.2.1)) < cI a by rw [cI_lt (by omega) (by omega) (by omega) (by omega)]; exact c1)]
          unfold J_X12_numberNow_54
          exact bad 2 (by omega) (by omega) (bad2 (by omega))
        · rw [if_neg (show ¬ (cI (vlN B x.2.2.1 (x.2.2.2 - x.2.2.1)) < cI a) by rw [cI_lt (by omega) (by omega) (by omega) (by omega)]; exact c1)]
          by_cases c2 : vlN B x.2.2.1 (x.2.2.2 - x.2.2.1) ≤ b
          · have e : nhX B N a b x = (vlN B x.2.2.1 (x.2.2.2 - x.2.2.1), x) := by
              unfold nhX
              rw [if_pos z, if_pos k2, if_pos ⟨c, by omega, c2⟩]
            rw [if_pos (show cI (vlN B x.2.2.1 (x.2.2.2 - x.2.2.1)) ≤ cI b by rw [cI_le (by omega) (by omega) (by omega) (by omega)]; exact c2), e]
            unfold J_X12_numberNow_59
            rw [if_neg (show ¬ (gI D 88 25 ≠ 0) by rw [ne_eq, bz h]; exact fun y => y z), b5 k2 (by rw [← w.2.2.2.1]; exact c), ← w.2.2.2.1]
            refine ok_someI ⟨?_, h, fM.rf⟩
            dsimp only
            rw [if_pos z]
          · rw [if_neg (show ¬ (cI (vlN B x.2.2.1 (x.2.2.2 - x.2.2.1)) ≤ cI b) by rw [cI_le (by omega) (by omega) (by omega) (by omega)]; exact c2)]
            unfold J_X12_numberNow_54
            exact bad 2 (by omega) (by omega) (bad2 (by omega))
      · rw [if_pos (show 4 < cI ((x.2.2.2 - x.2.2.1 : Nat) : Int) by rw [cL4, cI_lt (by omega) (by omega) (by omega) (by omega)]; omega)]
        unfold J_X12_numberNow_54
        exact bad 2 (by omega) (by omega) (bad2 (fun y => c y.1))
    · have e : nhX B N a b x = (a, flX 1 x) := by
        unfold nhX
        rw [if_pos z, if_neg k2]
      have mk2 : mkk (kd B N x.2.2.1) ≠ 2 ∧ 0 ≤ mkk (kd B N x.2.2.1) ∧ mkk (kd B N x.2.2.1) ≤ 5 := by
        unfold mkk
        repeat' split
        all_goals omega
      rw [if_neg (show ¬ (cI (mkk (kd B N x.2.2.1)) = 2) by rw [cL2, cI_eq (by omega) (by omega) (by omega) (by omega)]; exact mk2.1)]
      exact bad 1 (by omega) (by omega) e
  · rw [if_neg (show ¬ (gI D 88 25 = 0) by rw [bz h]; exact z), nh_f z, if_neg z]
    exact ok_someI ⟨rfl, h, fM.rf⟩
theorem mthen_ok {D : aD} {B : Nat → Int} {N : Nat} {y : aX} {v : Int32} (h : MC D B N y) : Ok (if gI D 88 25 ≠ 0 then some (v, D) else (f_X12_stepOn D).bind (fun D_3 => some (v, D_3))) (fun r => r.1 = v ∧ MC r.2 B N (tkX B N y) ∧ fM D r.2) := by
  by_cases z : y.1 = 0
  · rw [if_neg (show ¬ (gI D 88 25 ≠ 0) by rw [ne_eq, bz h]; exact fun y => y z)]
    exact ok_bindI ((mstepX_ok h z).mono fun D1 k => ok_someI ⟨rfl, k⟩)
  · rw [if_pos (show gI D 88 25 ≠ 0 by rw [ne_eq, bz h]; exact z), tk_f z]
    exact ok_someI ⟨rfl, h, fM.rf⟩
theorem mread_ok {D : aD} {B : Nat → Int} {N : Nat} {x : aX} {va vb : Int32} (a b : Int) (h : MC D B N (tkX B N x)) (ea : va = cI a) (eb : vb = cI b) (ha : -1 ≤ a) (ha2 : a ≤ 10000) (hb : -1 ≤ b) (hb2 : b < 10000) : Ok (f_X12_readNumber va vb D) (fun r => r.1 = cI (vz (nmX B N a b x)) ∧ MC r.2 B N (tkX B N (nmX B N a b x).2) ∧ fM D r.2) := by
  unfold f_X12_readNumber
  refine ok_biI ((mnow_ok a b h ea eb ha ha2 hb hb2).mono fun r k => ?_)
  obtain ⟨k1, k2, k3⟩ := k
  refine (mthen_ok (v := r.1) k2).mono fun r2 q => ?_
  exact ⟨q.1.trans k1, q.2.1, k3.tr q.2.2⟩
theorem mone_ok {D : aD} {B : Nat → Int} {N : Nat} {x : aX} {vw : Int32} (w c : Int) (h : MC D B N x) (ew : vw = cI w) (hw : w = 2 ∨ w = 3) (hc : gI D 91 (16 + w.toNat) = cI c) (c1 : 0 ≤ c) (c2 : c < 10000) : Ok (f_X12_oneNow vw D) (fun r => r.1 = cI (vz (khX B N c x)) ∧ MC r.2 B N (khX B N c x).2 ∧ fM D r.2) := by
  subst ew
  unfold f_X12_oneNow
  refine ok_biI ((mnow_ok 0 9999 h rfl rfl (by omega) (by omega) (by omega) (by omega)).mono fun r k => ?_)
  obtain ⟨y, D1⟩ := r
  obtain ⟨k1, k2, k3⟩ := k
  obtain rfl : y = cI (vz (nhX B N 0 9999 x)) := k1
  have k2' : MC D1 B N (nhX B N 0 9999 x).2 := k2
  have k3' : fM D D1 := k3
  have r := nh_r (B := B) (N := N) (a := 0) (b := 9999) (x := x) (by omega)
  dsimp only
  by_cases z : (nhX B N 0 9999 x).2.1 = 0
  · have x0 : x.1 = 0 := Decidable.byContradiction fun y => y (by rw [nh_f y] at z; exact z)
    have e0 : (nhX B N 0 9999 x).2 = x := by
      unfold nhX at z ⊢
      rw [if_pos x0] at z ⊢
      by_cases h1 : kd B N x.2.2.1 = 2
      · rw [if_pos h1] at z ⊢
        split at z
        · rename_i h2
          rw [if_pos h2]
        · exact absurd z (fl_1 (by omega))
      · rw [if_neg h1] at z
        exact absurd z (fl_1 (by omega))
    have ev : vz (nhX B N 0 9999 x) = (nhX B N 0 9999 x).1 := if_pos z
    have ek : (16 : Int32) + cI w = cI (16 + w) := cI_add 16 w
    have en' : ((16 : Int) + w).toNat = 16 + w.toNat := by omega
    rw [if_neg (show ¬ (gI D1 88 25 ≠ 0) by rw [ne_eq, bz k2']; exact fun y => y z), ek, e_gd (cI_inT (by omega) (by omega) (by omega)), cI_nat (by omega) (by omega), en', k3'.1 91 _ (by omega), hc, ev]
    rw [e0] at k2'
    by_cases u : (nhX B N 0 9999 x).1 < c
    · have e : khX B N c x = nhX B N 0 9999 x := by
        unfold khX
        rw [if_pos x0, if_pos z, if_pos u]
      rw [if_pos (show cI (nhX B N 0 9999 x).1 < cI c by rw [cI_lt (by omega) (by omega) (by omega) (by omega)]; exact u), e, ev, e0]
      unfold J_X12_oneNow_34
      rw [if_neg (show ¬ (gI D1 88 25 ≠ 0) by rw [ne_eq, bz k2']; exact fun y => y x0)]
      exact ok_someI ⟨rfl, k2', k3'⟩
    · have e : khX B N c x = (0, flX 3 x) := by
        unfold khX
        rw [if_pos x0, if_pos z, if_neg u]
      have f1 : (flX 3 x).1 ≠ 0 := fl_1 (by omega)
      rw [if_neg (show ¬ (cI (nhX B N 0 9999 x).1 < cI c) by rw [cI_lt (by omega) (by omega) (by omega) (by omega)]; exact u), e, show vz (0, flX 3 x) = 0 from if_neg f1]
      refine ok_bindI ((mwrong_ok 3 k2' rfl (by omega) (by omega)).mono fun D2 k4 => ?_)
      unfold J_X12_oneNow_34
      rw [if_pos (show gI D2 88 25 ≠ 0 by rw [ne_eq, bz k4.1]; exact f1)]
      exact ok_someI ⟨rfl, k4.1, k3'.tr k4.2⟩
  · have e2 : (khX B N c x).2 = (nhX B N 0 9999 x).2 := by
      unfold khX
      split
      · first | rfl | rw [if_neg z]
      · rename_i y
        rw [nh_f y]
    have e3 : vz (khX B N c x) = 0 := by
      unfold vz
      rw [e2, if_neg z]
    rw [if_pos (show gI D1 88 25 ≠ 0 by rw [ne_eq, bz k2']; exact z), e2, e3]
    unfold J_X12_oneNow_34
    rw [if_pos (show gI D1 88 25 ≠ 0 by rw [ne_eq, bz k2']; exact z)]
    exact ok_someI ⟨rfl, k2', k3'⟩
theorem mrone_ok {D : aD} {B : Nat → Int} {N : Nat} {x : aX} {vw : Int32} (w c : Int) (h : MC D B N x) (ew : vw = cI w) (hw : w = 2 ∨ w = 3) (hc : gI D 91 (16 + w.toNat) = cI c) (c1 : 0 ≤ c) (c2 : c < 10000) : Ok (f_X12_readOne vw D) (fun r => r.1 = cI (vz (khX B N c x)) ∧ MC r.2 B N (tkX B N (khX B N c x).2) ∧ fM D r.2) := by
  unfold f_X12_readOne
  refine ok_biI ((mone_ok w c h ew hw hc c1 c2).mono fun r k => ?_)
  obtain ⟨k1, k2, k3⟩ := k
  refine (mthen_ok (v := r.1) k2).mono fun r2 q => ?_
  exact ⟨q.1.trans k1, q.2.1, k3.tr q.2.2⟩
theorem mmark_eq {D : aD} {B : Nat → Int} {N : Nat} {x : aX} {vc : Int32} (c k : Int) (h : MC D B N x) (ec : vc = cI c) (hc : (c = 59 ∧ k = 3) ∨ (c = 45 ∧ k = 4)) : f_X12_isMarked vc D = some (cI (if x.1 = 0 ∧ kd B N x.2.2.1 = k then 1 else 0), D) := by
  subst ec
  have hN := h.1.1
  unfold f_X12_isMarked
  by_cases z : x.1 = 0
  · obtain ⟨⟨b1, b2, b3, b4, b5⟩, w⟩ := h.2.2.2.2 z
    have rk := kd_r B N x.2.2.1
    rw [if_neg (show ¬ (gI D 88 25 ≠ 0) by rw [ne_eq, bz h]; exact fun y => y z), b4]
    by_cases k3 : kd B N x.2.2.1 = 3 ∨ kd B N x.2.2.1 = 4
    · have lt : x.2.2.1 < N := by
        by_cases y : N ≤ x.2.2.1
        · have : kd B N x.2.2.1 = 0 := if_pos y
          omega
        · omega
      have ek : kd B N x.2.2.1 = kdb (B x.2.2.1) := if_neg (by omega)
      have b := h.1.2.2 _ lt
      have e1 : ((x.2.2.1 : Int)).toNat = x.2.2.1 := by omega
      have m3 : mkk (kd B N x.2.2.1) = 3 := by
        unfold mkk
        repeat' split
        all_goals omega
      have kb : (kdb (B x.2.2.1) = 3 ↔ B x.2.2.1 = 59) ∧ (kdb (B x.2.2.1) = 4 ↔ B x.2.2.1 = 45) := by
        unfold kdb
        constructor
        · repeat' split
          all_goals omega
        · repeat' split
          all_goals omega
      rw [m3, if_neg (show ¬ (cI 3 ≠ 3) from fun y => y rfl), b1, e_gd (cI_inT (by omega) (by omega) (by omega)), cI_nat (by omega) (by omega), e1, b.2.2]
      by_cases y : B x.2.2.1 = c
      · rw [if_neg (show ¬ (cI (B x.2.2.1) ≠ cI c) by rw [y]; exact fun w => w rfl), if_pos ⟨z, by rw [ek]; omega⟩]
        rfl
      · rw [if_pos (show cI (B x.2.2.1) ≠ cI c by rw [cI_ne (by omega) (by omega) (by omega) (by omega)]; exact y), if_neg (fun u => by have := u.2; rw [ek] at this; omega)]
        rfl
    · have m3 : mkk (kd B N x.2.2.1) ≠ 3 ∧ 0 ≤ mkk (kd B N x.2.2.1) ∧ mkk (kd B N x.2.2.1) ≤ 5 := by
        unfold mkk
        repeat' split
        all_goals omega
      rw [if_pos (show cI (mkk (kd B N x.2.2.1)) ≠ 3 by rw [cL3, cI_ne (by omega) (by omega) (by omega) (by omega)]; exact m3.1), if_neg (fun u => by have := u.2; omega)]
      rfl
  · rw [if_pos (show gI D 88 25 ≠ 0 by rw [ne_eq, bz h]; exact z), if_neg (fun u => z u.1)]
    rfl
theorem mis_eq {D : aD} {B : Nat → Int} {N w : Nat} {x : aX} (h : MC D B N x) (hw : w < 13) : f_X12_is w D = some (cI (if x.1 = 0 ∧ isWb B N w x = true then 1 else 0), D) := by
  have hN := h.1.1
  have l := len_r w hw
  have no : J_X12_is_35 w D = some (cI 0, D) := by
    unfold J_X12_is_35 J_X12_is_36 J_X12_is_39
    have L : aLp (fun s : Int32 × Int32 × aD => B_X12_is_39 w s.1 s.2.1 s.2.2) (cI 0, cI 0, D) = some (cI 0, D) :=
      lp_cnt (body := fun s : Int32 × Int32 × aD => B_X12_is_39 w s.1 s.2.1 s.2.2) 0 (by omega) (fun _ => (cI 0, cI 0, D)) (cI 0, D) (fun i hi => absurd hi (by omega)) (by show B_X12_is_39 w (cI 0) (cI 0) D = _; unfold B_X12_is_39; rw [if_pos (show cI 0 = 0 from rfl)])
    rw [show aLp (fun s : Int32 × Int32 × aD => B_X12_is_39 w s.1 s.2.1 s.2.2) (0, 0, D) = _ from L, e_bind]
    unfold J_X12_is_82
    rw [e_gd (show aZ (cI 0) = true by decide)]
  unfold f_X12_is
  by_cases z : x.1 = 0
  · obtain ⟨⟨b1, b2, b3, b4, b5⟩, wf⟩ := h.2.2.2.2 z
    have rk := kd_r B N x.2.2.1
    have we := wf_e wf
    have ey : ((x.2.2.2 : Int) - (x.2.2.1 : Int)) = ((x.2.2.2 - x.2.2.1 : Nat) : Int) := by omega
    rw [if_neg (show ¬ (gI D 88 25 ≠ 0) by rw [ne_eq, bz h]; exact fun y => y z), b4]
    by_cases k1 : kd B N x.2.2.1 = 1
    · rw [if_neg (show ¬ (cI (mkk (kd B N x.2.2.1)) ≠ 1) by rw [k1]; exact fun y => y rfl), b1, b2, ← wf.2.2.2.1, cI_sub, ey, l.2.2]
      by_cases k2 : x.2.2.2 - x.2.2.1 = sLenN w
      · rw [if_neg (show ¬ (cI (sLenN w : Int) ≠ cI ((x.2.2.2 - x.2.2.1 : Nat) : Int)) by rw [k2]; exact fun y => y rfl)]
        unfold J_X12_is_36 J_X12_is_39
        have L : Ok (aLp (fun s : Int32 × Int32 × aD => B_X12_is_39 w s.1 s.2.1 s.2.2) (cI 1, cI 0, D)) (fun r => (r = (cI 1, D) ∧ ∀ i : Nat, i < sLenN w → B (x.2.2.1 + i) = ltrW w i) ∨ (r = (cI 0, D) ∧ ¬ ∀ i : Nat, i < sLenN w → B (x.2.2.1 + i) = ltrW w i)) := by
          refine ok_lp (fun i t => (t = (cI 1, cI (i : Int), D) ∧ ∀ j : Nat, j < i → B (x.2.2.1 + j) = ltrW w j) ∨ (t = (cI 0, cI (i : Int), D) ∧ ¬ ∀ i : Nat, i < sLenN w → B (x.2.2.1 + i) = ltrW w i)) (sLenN w) (by omega) (Or.inl ⟨rfl, fun j hj => absurd hj (by omega)⟩) ?_
          rintro i t hi (⟨rfl, g⟩ | ⟨rfl, g⟩)
          · show Ok (B_X12_is_39 w (cI 1) (cI (i : Int)) D) _
            unfold B_X12_is_39
            rw [if_neg (show ¬ (cI 1 = 0) by decide), l.2.2]
            by_cases c : i < sLenN w
            · have b := h.1.2.2 (x.2.2.1 + i) (by omega)
              have cr := ch_r w hw i c
              have e1 : ((x.2.2.1 : Int) + (i : Int)).toNat = x.2.2.1 + i := by omega
              rw [if_neg (show ¬ (cI (sLenN w : Int) ≤ cI (i : Int)) by rw [cI_le (by omega) (by omega) (by omega) (by omega)]; omega), b1, cI_add, e_gd (cI_inT (by omega) (by omega) (by omega)), e_gd (cI_inT (by omega) (by omega) (by omega)), cI_nat (by omega) (by omega), e1, b.2.2, ch_c]
              by_cases y : ltrW w i = B (x.2.2.1 + i)
              · rw [if_neg (show ¬ (cI (ltrW w i) ≠ cI (B (x.2.2.1 + i))) by rw [y]; exact fun u => u rfl), e_let]
                refine ok_someI (Or.inl ⟨_, rfl, c, Or.inl ⟨by rw [cL1, cI_add]; rfl, fun j hj => ?_⟩⟩)
                by_cases u : j = i
                · subst u; exact y.symm
                · exact g j (by omega)
              · rw [if_pos (show cI (ltrW w i) ≠ cI (B (x.2.2.1 + i)) by rw [cI_ne (by omega) (by omega) (by omega) (by omega)]; exact y), e_let]
                exact ok_someI (Or.inl ⟨_, rfl, c, Or.inr ⟨by rw [cL1, cI_add]; rfl, fun u => y (u i c).symm⟩⟩)
            · obtain rfl : i = sLenN w := by omega
              rw [if_pos (show cI (sLenN w : Int) ≤ cI (sLenN w : Int) by rw [cI_le (by omega) (by omega) (by omega) (by omega)]; omega)]
              exact ok_someI (Or.inr ⟨_, rfl, Or.inl ⟨rfl, g⟩⟩)
          · show Ok (B_X12_is_39 w (cI 0) (cI (i : Int)) D) _
            unfold B_X12_is_39
            rw [if_pos (show cI 0 = 0 from rfl)]
            exact ok_someI (Or.inr ⟨_, rfl, Or.inr ⟨rfl, g⟩⟩)
        obtain ⟨r, e, q⟩ := L
        rw [show aLp (fun s : Int32 × Int32 × aD => B_X12_is_39 w s.1 s.2.1 s.2.2) (1, 0, D) = some r from e, e_bind]
        unfold J_X12_is_82
        rcases q with ⟨rfl, q⟩ | ⟨rfl, q⟩
        · rw [if_pos ⟨z, show isWb B N w x = true from decide_eq_true ⟨k1, k2, q⟩⟩]
          rfl
        · rw [if_neg (show ¬ (x.1 = 0 ∧ isWb B N w x = true) from fun u => q (of_decide_eq_true u.2).2.2)]
          rfl
      · rw [if_pos (show cI (sLenN w : Int) ≠ cI ((x.2.2.2 - x.2.2.1 : Nat) : Int) by rw [cI_ne (by omega) (by omega) (by omega) (by omega)]; omega), no, if_neg (show ¬ (x.1 = 0 ∧ isWb B N w x = true) from fun u => k2 (of_decide_eq_true u.2).2.1)]
    · have m1 : mkk (kd B N x.2.2.1) ≠ 1 ∧ 0 ≤ mkk (kd B N x.2.2.1) ∧ mkk (kd B N x.2.2.1) ≤ 5 := by
        unfold mkk
        repeat' split
        all_goals omega
      rw [if_pos (show cI (mkk (kd B N x.2.2.1)) ≠ 1 by rw [cL1, cI_ne (by omega) (by omega) (by omega) (by omega)]; exact m1.1), no, if_neg (show ¬ (x.1 = 0 ∧ isWb B N w x = true) from fun u => k1 (of_decide_eq_true u.2).1)]
  · rw [if_pos (show gI D 88 25 ≠ 0 by rw [ne_eq, bz h]; exact z), no, if_neg (fun u => z u.1)]
theorem msigned_ok {D : aD} {B : Nat → Int} {N : Nat} {x : aX} {vm : Int32} (m : Int) (h : MC D B N x) (em : vm = cI m) (hm : 0 ≤ m) (hm2 : m < 10000) : Ok (f_X12_readSigned vm D) (fun r => r.1 = cI (vz (sgX B N m x)) ∧ MC r.2 B N (tkX B N (sgX B N m x).2) ∧ fM D r.2) := by
  unfold f_X12_readSigned
  rw [mmark_eq (vc := 45) 45 4 h rfl (Or.inr ⟨rfl, rfl⟩), e_bi]
  by_cases c : x.1 = 0 ∧ kd B N x.2.2.1 = 4
  · have e : sgX B N m x = (-(nmX B N 0 m x).1, (nmX B N 0 m x).2) := if_pos c
    rw [if_pos c, if_neg (show ¬ (cI 1 = 0) by decide), e]
    refine ok_bindI ((mstepX_ok h c.1).mono fun D1 k => ?_)
    unfold J_X12_readSigned_15
    refine ok_biI ((mread_ok (x := x) 0 m k.1 rfl em (by omega) (by omega) (by omega) (by omega)).mono fun r k2 => ?_)
    rw [if_neg (show ¬ (cI 1 = 0) by decide), k2.1, cI_neg]
    refine ok_someI ⟨?_, k2.2.1, k.2.tr k2.2.2⟩
    unfold vz
    dsimp only
    split <;> rfl
  · have e : sgX B N m x = nhX B N 0 m x := if_neg c
    rw [if_neg c, if_pos (show cI 0 = 0 from rfl), e]
    unfold J_X12_readSigned_15
    have rd : Ok (f_X12_readNumber 0 vm D) (fun r => r.1 = cI (vz (nhX B N 0 m x)) ∧ MC r.2 B N (tkX B N (nhX B N 0 m x).2) ∧ fM D r.2) := by
      unfold f_X12_readNumber
      refine ok_biI ((mnow_ok 0 m h rfl em (by omega) (by omega) (by omega) (by omega)).mono fun r k => ?_)
      obtain ⟨k1, k2, k3⟩ := k
      refine (mthen_ok (v := r.1) k2).mono fun r2 q => ?_
      exact ⟨q.1.trans k1, q.2.1, k3.tr q.2.2⟩
    refine ok_biI (rd.mono fun r k => ?_)
    rw [if_pos (show cI 0 = 0 from rfl)]
    exact ok_someI k
theorem mbegin_ok {D : aD} {B : Nat → Int} {N : Nat} {x : aX} {vw vt : Int32} (w top c : Int) (h : MC D B N x) (h0 : x.1 = 0) (ew : vw = cI w) (et : vt = cI top) (hw : 0 ≤ w ∧ w < 16) (ht : 0 ≤ top ∧ top < 1000) (hc : gI D 91 (16 + w.toNat) = cI c) (c1 : 0 ≤ c) (c2 : c ≤ top) : Ok (f_X12_begin vw vt D) (fun r => (c < top → r.1 = cI 1 ∧ MC r.2 B N (tkX B N x)) ∧ (¬ c < top → r.1 = cI 0 ∧ MC r.2 B N (flX 2 x)) ∧ fM D r.2) := by
  subst ew et
  have ek : (16 : Int32) + cI w = cI (16 + w) := cI_add 16 w
  have en' : ((16 : Int) + w).toNat = 16 + w.toNat := by omega
  unfold f_X12_begin
  rw [ek, e_gd (cI_inT (by omega) (by omega) (by omega)), cI_nat (by omega) (by omega), en', hc]
  by_cases z : c < top
  · rw [if_pos (show cI c ≠ cI top by rw [cI_ne (by omega) (by omega) (by omega) (by omega)]; omega)]
    unfold J_X12_begin_18
    rw [if_pos (show gI D 88 25 = 0 by rw [bz h]; exact h0)]
    exact ok_bindI ((mstepX_ok h h0).mono fun D1 k => ok_someI ⟨fun _ => ⟨rfl, k.1⟩, fun y => absurd z y, k.2⟩)
  · obtain rfl : c = top := by omega
    rw [if_neg (show ¬ (cI c ≠ cI c) from fun y => y rfl)]
    refine ok_bindI ((mwrong_ok 2 h rfl (by omega) (by omega)).mono fun D1 k => ?_)
    unfold J_X12_begin_18
    rw [if_neg (show ¬ (gI D1 88 25 = 0) by rw [bz k.1]; exact fl_1 (by omega))]
    exact ok_someI ⟨fun y => absurd y z, fun _ => ⟨rfl, k.1⟩, k.2⟩
theorem mpass_ok {D : aD} {B : Nat → Int} {N w : Nat} {x : aX} (h : MC D B N x) (hw : w < 13) : Ok (f_X12_passes w D) (fun r => (x.1 = 0 ∧ isWb B N w x = true → r.1 = cI 1 ∧ MC r.2 B N (tkX B N x)) ∧ (¬ (x.1 = 0 ∧ isWb B N w x = true) → r.1 = cI 0 ∧ MC r.2 B N x) ∧ fM D r.2) := by
  unfold f_X12_passes
  rw [mis_eq h hw, e_bi]
  by_cases z : x.1 = 0 ∧ isWb B N w x = true
  · rw [if_pos z, if_neg (show ¬ (cI 1 = 0) by decide)]
    refine ok_bindI ((mstepX_ok h z.1).mono fun D1 k => ?_)
    rw [e_gd (by decide)]
    exact ok_someI ⟨fun _ => ⟨rfl, k.1⟩, fun y => absurd z y, k.2⟩
  · rw [if_neg z, if_pos (show cI 0 = 0 from rfl), e_gd (by decide)]
    exact ok_someI ⟨fun y => absurd y z, fun _ => ⟨rfl, h⟩, fM.rf⟩
end MNU
