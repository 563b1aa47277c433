/-! town: words -/
section WRD
def ltrW (w i : Nat) : Int := (sCh w (cI (i : Int))).toInt
def isWb (B : Nat → Int) (N w : Nat) (x : aX) : Bool := decide (kd B N x.2.2.1 = 1 ∧ x.2.2.2 - x.2.2.1 = sLenN w ∧ ∀ i : Nat, i < sLenN w → B (x.2.2.1 + i) = ltrW w i)
theorem ch_r : ∀ w : Nat, w < 13 → ∀ i : Nat, i < sLenN w → 97 ≤ ltrW w i ∧ ltrW w i ≤ 122 := by decide +kernel
theorem len_r : ∀ w : Nat, w < 13 → 2 ≤ sLenN w ∧ sLenN w ≤ 7 ∧ sLen w = cI (sLenN w : Int) := by decide +kernel
theorem ch_c (w i : Nat) : sCh w (cI (i : Int)) = cI (ltrW w i) := (Int32.ofInt_toInt _).symm
theorem wd_ne : ∀ w : Nat, w < 13 → ∀ w' : Nat, w' < 13 → w ≠ w' → sLenN w ≠ sLenN w' ∨ ¬ ∀ i : Nat, i < sLenN w → ltrW w i = ltrW w' i := by decide +kernel
theorem isW_u {B : Nat → Int} {N w w' : Nat} {x : aX} (hw : w < 13) (hw' : w' < 13) (h : isWb B N w x = true) (h' : isWb B N w' x = true) : w = w' := by
  have a := of_decide_eq_true h
  have b := of_decide_eq_true h'
  by_cases z : w = w'
  · exact z
  · rcases wd_ne w hw w' hw' z with c | c
    · exact absurd (a.2.1.symm.trans b.2.1) c
    · refine absurd (fun i hi => ?_) c
      rw [← a.2.2 i hi]
      exact b.2.2 i (by rw [← b.2.1, a.2.1]; exact hi)
theorem isWord_eq {D : aD} {B : Nat → Int} {N q w : Nat} {x : aX} (h : RD D B N q x) (hw : w < 13) : f_X7_isWord w D = some (cI (if isWb B N w x = true then 1 else 0), D) := by
  have ⟨a2, a3, a4, a5, a6, a7, a8, ab, aw⟩ := h
  have r := kd_r B N x.2.2.1
  have we := wf_e aw
  have l := len_r w hw
  have hN := ab.1
  have ey : ((x.2.2.2 : Int) - (x.2.2.1 : Int)) = ((x.2.2.2 - x.2.2.1 : Nat) : Int) := by omega
  unfold f_X7_isWord
  rw [a3]
  by_cases k1 : kd B N x.2.2.1 = 1
  · rw [if_neg (show ¬ (cI (kd B N x.2.2.1) ≠ 1) by rw [k1]; exact fun z => z rfl), a4, a5, cI_sub, ey, l.2.2]
    by_cases k2 : x.2.2.2 - x.2.2.1 = sLenN w
    · rw [if_pos (show cI ((x.2.2.2 - x.2.2.1 : Nat) : Int) = cI (sLenN w : Int) by rw [k2])]
      unfold J_X7_isWord_28
      have L : Ok (aLp (fun s : Int32 × aD => B_X7_isWord_28 w s.1 s.2) (cI 0, D)) (fun r => (r = .inr D ∧ ∀ i : Nat, i < sLenN w → B (x.2.2.1 + i) = ltrW w i) ∨ (r = .inl D ∧ ¬ ∀ i : Nat, i < sLenN w → B (x.2.2.1 + i) = ltrW w i)) := by
        refine ok_lp (fun i t => t = (cI (i : Int), D) ∧ ∀ j : Nat, j < i → B (x.2.2.1 + j) = ltrW w j) (sLenN w) (by omega) ⟨rfl, fun j hj => absurd hj (by omega)⟩ ?_
        rintro i t hi ⟨rfl, g⟩
        show Ok (B_X7_isWord_28 w (cI (i : Int)) D) _
        unfold B_X7_isWord_28
        rw [l.2.2]
        by_cases c : i < sLenN w
        · have b := ab.2 (x.2.2.1 + i) (by omega)
          have f := bs_f b.1 b.2.1
          have cr := ch_r w hw i c
          have e1 : ((x.2.2.1 : Int) + (i : Int)).toNat = x.2.2.1 + i := by omega
          rw [if_neg (show ¬ (cI (sLenN w : Int) ≤ cI (i : Int)) by rw [cI_le (by omega) (by omega) (by omega) (by omega)]; omega), a4, cI_add, e_gd (cI_inT (by omega) (by omega) (by omega)), e_gd (cI_inT (by omega) (by omega) (by omega)), cI_nat (by omega) (by omega), e1, b.2.2, ch_c]
          by_cases z : B (x.2.2.1 + i) = ltrW w i
          · rw [if_pos (show cI (bSg (B (x.2.2.1 + i))) = cI (ltrW w i) by rw [show bSg (B (x.2.2.1 + i)) = ltrW w i by omega]), e_let]
            refine ok_someI (Or.inl ⟨_, rfl, c, by rw [cL1, cI_add]; rfl, fun j hj => ?_⟩)
            by_cases y : j = i
            · subst y; exact z
            · exact g j (by omega)
          · rw [if_neg (show ¬ (cI (bSg (B (x.2.2.1 + i))) = cI (ltrW w i)) by rw [cI_eq (by omega) (by omega) (by omega) (by omega)]; omega)]
            exact ok_someI (Or.inr ⟨_, rfl, Or.inr ⟨rfl, fun y => z (y i c)⟩⟩)
        · obtain rfl : i = sLenN w := by omega
          rw [if_pos (show cI (sLenN w : Int) ≤ cI (sLenN w : Int) by rw [cI_le (by omega) (by omega) (by omega) (by omega)]; omega)]
          exact ok_someI (Or.inr ⟨_, rfl, Or.inl ⟨rfl, g⟩⟩)
      obtain ⟨r, e, q⟩ := L
      rw [show aLp (fun s : Int32 × aD => B_X7_isWord_28 w s.1 s.2) (0, D) = some r from e, e_bind]
      rcases q with ⟨rfl, q⟩ | ⟨rfl, q⟩
      · rw [if_pos (show isWb B N w x = true from decide_eq_true ⟨k1, k2, q⟩)]
        rfl
      · rw [if_neg (show ¬ (isWb B N w x = true) from fun z => q (of_decide_eq_true z).2.2)]
        rfl
    · rw [if_neg (show ¬ (cI ((x.2.2.2 - x.2.2.1 : Nat) : Int) = cI (sLenN w : Int)) by rw [cI_eq (by omega) (by omega) (by omega) (by omega)]; omega), if_neg (show ¬ (isWb B N w x = true) from fun z => k2 (of_decide_eq_true z).2.1)]
      rfl
  · rw [if_pos (show cI (kd B N x.2.2.1) ≠ 1 by rw [cL1, cI_ne (by omega) (by omega) (by omega) (by omega)]; exact k1), if_neg (show ¬ (isWb B N w x = true) from fun z => k1 (of_decide_eq_true z).1)]
    rfl
theorem tld : ∀ b : Nat, b = 1 ∨ b = 2 ∨ b = 4 ∨ b = 8 ∨ b = 16 → ∀ q : Nat, q < 128 → (cI ((q % 32 : Nat) : Int) &&& cI (b : Int) = 0 ↔ q &&& b = 0) ∧ cI ((q % 32 : Nat) : Int) ||| cI (b : Int) = cI (((q ||| b) % 32 : Nat) : Int) := by
  rintro b (rfl | rfl | rfl | rfl | rfl) <;> decide +kernel
theorem RD.told {D : aD} {B : Nat → Int} {N q q' : Nat} {x : aX} (h : RD D B N q x) : RD (pI D 56 6 (cI ((q' % 32 : Nat) : Int))) B N q' x := by
  obtain ⟨h2, h3, h4, h5, h6, h7, h8, hb, hw⟩ := h
  exact ⟨(gI_fr (by omega)).trans h2, (gI_fr (by omega)).trans h3, (gI_fr (by omega)).trans h4, (gI_fr (by omega)).trans h5, gI_eq, (gI_fr (by omega)).trans h7, (gI_fr (by omega)).trans h8, hb.fr (fun j => gI_fr (by omega)), hw⟩
def onX (q b : Nat) (x : aX) : aX := if q &&& b = 0 then x else flX 4 x
theorem once_ok {D : aD} {B : Nat → Int} {N q : Nat} {x : aX} {v : Int32} (b : Nat) (h : RD D B N q x) (ev : v = cI (b : Int)) (hq : q < 128) (hb : b = 1 ∨ b = 2 ∨ b = 4 ∨ b = 8 ∨ b = 16) : Ok (f_X7_once v D) (fun D' => RD D' B N (q ||| b) (onX q b x) ∧ f56 D D') := by
  subst ev
  have t := tld b hb q hq
  unfold f_X7_once onX
  rw [h.2.2.2.2.1]
  by_cases z : q &&& b = 0
  · rw [if_pos (t.1.mpr z), if_pos z, t.2, e_let]
    exact ok_someI ⟨h.told, fun k j a => gI_fr (by omega)⟩
  · rw [if_neg (fun y => z (t.1.mp y)), if_neg z]
    refine ok_bindI ((fail_ok 4 h rfl (by omega) (by omega)).mono fun D1 k => ?_)
    rw [k.1.2.2.2.2.1, t.2, e_let]
    exact ok_someI ⟨k.1.told, fun k' j a => (gI_fr (by omega)).trans (k.2 k' j a)⟩
def owX (B : Nat → Int) (N : Nat) (g : Int) (y : aX) : Int × aX := if y.1 = 0 ∧ isWb B N 10 y = true then ((khX B N g (tkX B N y)).1, tkX B N (khX B N g (tkX B N y)).2) else (-1, y)
theorem sc_f {B : Nat → Int} {N : Nat} {x : aX} (h : x.1 ≠ 0) : scX B N x = x := by
  unfold scX
  rw [fl_f h, ite_self]
theorem owner_ok {D : aD} {B : Nat → Int} {N q : Nat} {x : aX} {g : Int} (h : RD D B N q x) (hg : gI D 21 3 = cI g) (g1 : 0 ≤ g) (g2 : g < 10000) : Ok (f_X7_owner D) (fun r => r.1 = cI (owX B N g (tkX B N x)).1 ∧ RD r.2 B N q (scX B N (owX B N g (tkX B N x)).2) ∧ f56 D r.2) := by
  unfold f_X7_owner owX
  by_cases z : x.1 = 0
  · have z1 : (tkX B N x).1 = 0 := tk_1.trans z
    rw [if_pos (show gI D 56 7 = 0 by rw [fz h]; exact z)]
    refine ok_bindI ((takeX_ok h z).mono fun D1 k => ?_)
    rw [isWord_eq k.1 (by omega), e_bi]
    by_cases w : isWb B N 10 (tkX B N x) = true
    · rw [if_pos w, if_neg (show ¬ (cI 1 = 0) by decide), if_pos ⟨z1, w⟩, k.2 21 3 (by omega)]
      refine ok_biI ((known_ok g k.1 hg g1 g2).mono fun r k2 => ?_)
      refine ok_bindI ((close_ok k2.2.1).mono fun D3 k3 => ok_someI ?_)
      exact ⟨k2.1, k3.1, (k.2.tr k2.2.2).tr k3.2⟩
    · rw [if_neg w, if_pos (show cI 0 = 0 from rfl), if_neg (fun y => w y.2)]
      refine ok_bindI ((needS_ok k.1).mono fun D3 k3 => ok_someI ?_)
      exact ⟨rfl, k3.1, k.2.tr k3.2⟩
  · rw [if_neg (show ¬ (gI D 56 7 = 0) by rw [fz h]; exact z), tk_f z, if_neg (fun y => z y.1)]
    refine ok_someI ⟨rfl, ?_, f56.rf⟩
    rw [sc_f z]
    exact h
end WRD
