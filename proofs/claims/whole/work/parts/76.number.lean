/-! town: the class's reader, number by number -/
section NUM
abbrev aX : Type := Int × Int × Nat × Nat
def flX (c : Int) (x : aX) : aX := if x.1 = 0 then (c, (x.2.2.1 : Int), x.2.2) else x
def tkX (B : Nat → Int) (N : Nat) (x : aX) : aX := if x.1 = 0 then (x.1, x.2.1, rnE B N bBk x.2.2.2, en B N (rnE B N bBk x.2.2.2)) else x
def vlN (B : Nat → Int) (s : Nat) : Nat → Int
  | 0 => 0
  | k + 1 => vlN B s k * 10 + B (s + k) - 48
def nhX (B : Nat → Int) (N : Nat) (a b : Int) (x : aX) : Int × aX :=
  if x.1 = 0 then
    if kd B N x.2.2.1 = 2 then
      if x.2.2.2 - x.2.2.1 ≤ 4 ∧ a ≤ vlN B x.2.2.1 (x.2.2.2 - x.2.2.1) ∧ vlN B x.2.2.1 (x.2.2.2 - x.2.2.1) ≤ b then (vlN B x.2.2.1 (x.2.2.2 - x.2.2.1), x) else (a, flX 2 x)
    else (a, flX 1 x)
  else (a, x)
def khX (B : Nat → Int) (N : Nat) (c : Int) (x : aX) : Int × aX :=
  if x.1 = 0 then
    if (nhX B N 0 9999 x).2.1 = 0 then
      if (nhX B N 0 9999 x).1 < c then nhX B N 0 9999 x else (0, flX 3 x)
    else (0, (nhX B N 0 9999 x).2)
  else (0, x)
def sgX (B : Nat → Int) (N : Nat) (m : Int) (x : aX) : Int × aX := if x.1 = 0 ∧ kd B N x.2.2.1 = 4 then (-(nhX B N 0 m (tkX B N x)).1, (nhX B N 0 m (tkX B N x)).2) else nhX B N 0 m x
def scX (B : Nat → Int) (N : Nat) (x : aX) : aX := if kd B N x.2.2.1 = 3 then x else flX 1 x
def wfX (B : Nat → Int) (N : Nat) (x : aX) : Prop := 0 ≤ x.1 ∧ x.1 ≤ 5 ∧ x.2.2.1 ≤ N ∧ x.2.2.2 = en B N x.2.2.1 ∧ (x.1 = 0 → x.2.1 = -1)
def f56 (D D' : aD) : Prop := ∀ k j : Nat, k ≠ 56 → gI D' k j = gI D k j
theorem f56.tr {D D1 D2 : aD} (a : f56 D D1) (b : f56 D1 D2) : f56 D D2 := fun k j h => (b k j h).trans (a k j h)
theorem f56.rf {D : aD} : f56 D D := fun _ _ _ => rfl
def RD (D : aD) (B : Nat → Int) (N q : Nat) (x : aX) : Prop := gI D 56 2 = cI (N : Int) ∧ gI D 56 3 = cI (kd B N x.2.2.1) ∧ gI D 56 4 = cI (x.2.2.1 : Int) ∧ gI D 56 5 = cI (x.2.2.2 : Int) ∧ gI D 56 6 = cI ((q % 32 : Nat) : Int) ∧ gI D 56 7 = cI x.1 ∧ gI D 56 8 = cI x.2.1 ∧ BT D B N ∧ wfX B N x
theorem RD.fr {D D' : aD} {B : Nat → Int} {N q : Nat} {x : aX} (h : RD D B N q x) (e : ∀ k j : Nat, k = 56 ∨ k = 1 → gI D' k j = gI D k j) : RD D' B N q x := by
  obtain ⟨h2, h3, h4, h5, h6, h7, h8, hb, hw⟩ := h
  exact ⟨(e _ _ (by omega)).trans h2, (e _ _ (by omega)).trans h3, (e _ _ (by omega)).trans h4, (e _ _ (by omega)).trans h5, (e _ _ (by omega)).trans h6, (e _ _ (by omega)).trans h7, (e _ _ (by omega)).trans h8, hb.fr (fun j => e _ j (by omega)), hw⟩
theorem RD.wr {D : aD} {B : Nat → Int} {N q k j : Nat} {x : aX} {v : Int32} (h : RD D B N q x) (hk : k ≠ 56) (h1 : k ≠ 1) : RD (pI D k j v) B N q x := h.fr (fun k' j' a => gI_fr (by omega))
theorem wf_fl {B : Nat → Int} {N : Nat} {x : aX} {c : Int} (h : wfX B N x) (h1 : 1 ≤ c) (h2 : c ≤ 5) : wfX B N (flX c x) := by
  unfold flX
  split
  · exact ⟨by show 0 ≤ c; omega, h2, h.2.2.1, h.2.2.2.1, fun z => absurd (show c = 0 from z) (by omega)⟩
  · exact h
theorem wf_e {B : Nat → Int} {N : Nat} {x : aX} (h : wfX B N x) : x.2.2.1 ≤ x.2.2.2 ∧ x.2.2.2 ≤ N := by
  have a := en_b (B := B) h.2.2.1
  rw [h.2.2.2.1]
  exact ⟨a.1, a.2.1⟩
theorem wf_tk {B : Nat → Int} {N : Nat} {x : aX} (h : wfX B N x) : wfX B N (tkX B N x) := by
  have a := wf_e h
  unfold tkX
  split
  · exact ⟨h.1, h.2.1, (rnB (B := B) (P := bBk) a.2).1.2, rfl, h.2.2.2.2⟩
  · exact h
theorem fl_e {c : Int} {x : aX} : (flX c x).2.2 = x.2.2 := by
  unfold flX
  split <;> rfl
theorem fl_f {c : Int} {x : aX} (h : x.1 ≠ 0) : flX c x = x := if_neg h
theorem fl_1 {c : Int} {x : aX} (hc : c ≠ 0) : (flX c x).1 ≠ 0 := by
  unfold flX
  split
  · exact hc
  · assumption
theorem tk_f {B : Nat → Int} {N : Nat} {x : aX} (h : x.1 ≠ 0) : tkX B N x = x := if_neg h
theorem tk_1 {B : Nat → Int} {N : Nat} {x : aX} : (tkX B N x).1 = x.1 := by
  unfold tkX
  split <;> rfl
theorem tk_e {B : Nat → Int} {N : Nat} {x : aX} (h : x.2.2.2 ≤ N) : x.2.2.2 ≤ (tkX B N x).2.2.2 ∧ (tkX B N x).2.2.2 ≤ N := by
  unfold tkX
  split
  · have a := (rnB (B := B) (P := bBk) h).1
    have b := en_b (B := B) a.2
    exact ⟨Nat.le_trans a.1 b.1, b.2.1⟩
  · exact ⟨Nat.le_refl _, h⟩
theorem nh_e {B : Nat → Int} {N : Nat} {a b : Int} {x : aX} : (nhX B N a b x).2.2.2 = x.2.2 := by
  unfold nhX
  repeat' split
  all_goals first | rfl | exact fl_e
theorem nh_f {B : Nat → Int} {N : Nat} {a b : Int} {x : aX} (h : x.1 ≠ 0) : nhX B N a b x = (a, x) := if_neg h
theorem nh_r {B : Nat → Int} {N : Nat} {a b : Int} {x : aX} (h : a ≤ b) : a ≤ (nhX B N a b x).1 ∧ (nhX B N a b x).1 ≤ b := by
  unfold nhX
  repeat' split
  all_goals dsimp only
  all_goals omega
theorem nh_w {B : Nat → Int} {N : Nat} {a b : Int} {x : aX} (h : wfX B N x) : wfX B N (nhX B N a b x).2 := by
  unfold nhX
  repeat' split
  all_goals first | exact h | exact wf_fl h (by omega) (by omega)
theorem kh_r {B : Nat → Int} {N : Nat} {c : Int} {x : aX} (h : 0 ≤ c) : 0 ≤ (khX B N c x).1 ∧ ((khX B N c x).1 < c ∨ (khX B N c x).1 = 0) ∧ ((khX B N c x).2.1 = 0 → (khX B N c x).1 < c) := by
  have r := nh_r (B := B) (N := N) (a := 0) (b := 9999) (x := x) (by omega)
  unfold khX
  split
  · split
    · split
      · exact ⟨r.1, Or.inl (by assumption), fun _ => by assumption⟩
      · exact ⟨Int.le_refl 0, Or.inr rfl, fun z => absurd z (fl_1 (by omega))⟩
    · exact ⟨Int.le_refl 0, Or.inr rfl, fun z => absurd z (by assumption)⟩
  · exact ⟨Int.le_refl 0, Or.inr rfl, fun z => absurd z (by assumption)⟩
theorem kh_w {B : Nat → Int} {N : Nat} {c : Int} {x : aX} (h : wfX B N x) : wfX B N (khX B N c x).2 := by
  unfold khX
  repeat' split
  all_goals first | exact h | exact nh_w h | exact wf_fl h (by omega) (by omega)
theorem kh_e {B : Nat → Int} {N : Nat} {c : Int} {x : aX} : (khX B N c x).2.2.2 = x.2.2 := by
  unfold khX
  repeat' split
  all_goals first | rfl | exact nh_e | exact fl_e
theorem fail_ok {D : aD} {B : Nat → Int} {N q : Nat} {x : aX} {v : Int32} (c : Int) (h : RD D B N q x) (hv : v = cI c) (h1 : 1 ≤ c) (h2 : c ≤ 5) : Ok (f_X7_fail v D) (fun D' => RD D' B N q (flX c x) ∧ f56 D D') := by
  subst hv
  have hw := wf_fl h.2.2.2.2.2.2.2.2 h1 h2
  obtain ⟨f, fp, s, e⟩ := x
  have ⟨a2, a3, a4, a5, a6, a7, a8, ab, aw⟩ := h
  have a7' : gI D 56 7 = cI f := a7
  have a4' : gI D 56 4 = cI (s : Int) := a4
  have r1 : 0 ≤ f := aw.1
  have r2 : f ≤ 5 := aw.2.1
  unfold f_X7_fail
  rw [a7']
  by_cases z : f = 0
  · subst z
    rw [if_neg (show ¬ (cI 0 ≠ 0) from fun z => z rfl), e_let, gI_fr (by omega), a4', e_let]
    refine ok_someI ⟨⟨?_, ?_, ?_, ?_, ?_, ?_, gI_eq, ab.fr (fun j => by rw [gI_fr (by omega), gI_fr (by omega)]), hw⟩, fun k j a => by rw [gI_fr (by omega), gI_fr (by omega)]⟩
    · rw [gI_fr (by omega), gI_fr (by omega)]; exact a2
    · rw [gI_fr (by omega), gI_fr (by omega)]; exact a3
    · rw [gI_fr (by omega), gI_fr (by omega)]; exact a4
    · rw [gI_fr (by omega), gI_fr (by omega)]; exact a5
    · rw [gI_fr (by omega), gI_fr (by omega)]; exact a6
    · rw [gI_fr (by omega)]; exact gI_eq
  · rw [if_pos (show cI f ≠ 0 by rw [cL0, cI_ne (by omega) (by omega) (by omega) (by omega)]; exact z)]
    refine ok_someI ⟨?_, f56.rf⟩
    rw [fl_f (x := (f, fp, s, e)) z]
    exact h
theorem takeX_ok {D : aD} {B : Nat → Int} {N q : Nat} {x : aX} (h : RD D B N q x) (h0 : x.1 = 0) : Ok (f_X7_take D) (fun D' => RD D' B N q (tkX B N x) ∧ f56 D D') := by
  have hw := wf_tk h.2.2.2.2.2.2.2.2
  have he := wf_e h.2.2.2.2.2.2.2.2
  obtain ⟨f, fp, s, e⟩ := x
  obtain rfl : f = 0 := h0
  have ⟨a2, a3, a4, a5, a6, a7, a8, ab, aw⟩ := h
  refine (take_ok (e := e) a2 a5 he.2 ab).mono fun D' k => ?_
  obtain ⟨k3, k4, k5, k6⟩ := k
  exact ⟨⟨(k6 _ _ (by omega)).trans a2, k3, k4, k5, (k6 _ _ (by omega)).trans a6, (k6 _ _ (by omega)).trans a7, (k6 _ _ (by omega)).trans a8, ab.fr (fun j => k6 _ j (by omega)), hw⟩, fun k j a => k6 k j (by omega)⟩
theorem needS_ok {D : aD} {B : Nat → Int} {N q : Nat} {x : aX} (h : RD D B N q x) : Ok (f_X7_needSemicolon D) (fun D' => RD D' B N q (scX B N x) ∧ f56 D D') := by
  have r := kd_r B N x.2.2.1
  unfold f_X7_needSemicolon scX
  rw [h.2.1]
  by_cases z : kd B N x.2.2.1 = 3
  · rw [if_pos (show cI (kd B N x.2.2.1) = 3 by rw [z]; rfl), if_pos z]
    exact ok_someI ⟨h, f56.rf⟩
  · rw [if_neg (show ¬ (cI (kd B N x.2.2.1) = 3) by rw [cL3, cI_eq (by omega) (by omega) (by omega) (by omega)]; exact z), if_neg z]
    exact ok_bindI ((fail_ok 1 h rfl (by omega) (by omega)).mono fun D' k => ok_someI k)
theorem fz {D : aD} {B : Nat → Int} {N q : Nat} {x : aX} (h : RD D B N q x) : (gI D 56 7 = 0) = (x.1 = 0) := by
  have w := h.2.2.2.2.2.2.2.2
  rw [h.2.2.2.2.2.1, cL0, cI_eq (by have := w.1; omega) (by have := w.2.1; omega) (by omega) (by omega)]
theorem close_ok {D : aD} {B : Nat → Int} {N q : Nat} {x : aX} (h : RD D B N q x) : Ok (f_X7_close D) (fun D' => RD D' B N q (scX B N (tkX B N x)) ∧ f56 D D') := by
  unfold f_X7_close
  by_cases z : x.1 = 0
  · rw [if_neg (show ¬ (gI D 56 7 ≠ 0) by rw [ne_eq, fz h]; exact fun y => y z)]
    refine ok_bindI ((takeX_ok h z).mono fun D1 k => ?_)
    exact ok_bindI ((needS_ok k.1).mono fun D2 k2 => ok_someI ⟨k2.1, k.2.tr k2.2⟩)
  · rw [if_pos (show gI D 56 7 ≠ 0 by rw [ne_eq, fz h]; exact z), tk_f z]
    unfold scX
    rw [fl_f z, ite_self]
    exact ok_someI ⟨h, f56.rf⟩
theorem vl_b {B : Nat → Int} {s : Nat} : ∀ k : Nat, (∀ i : Nat, i < k → kdb (B (s + i)) = 2) → 0 ≤ vlN B s k ∧ vlN B s k < 10 ^ k
  | 0, _ => by simp [vlN]
  | k + 1, h => by
    have a := vl_b (B := B) (s := s) k (fun i hi => h i (by omega))
    have b := h k (by omega)
    have c : 48 ≤ B (s + k) ∧ B (s + k) ≤ 57 := by
      unfold kdb at b
      by_cases z : 48 ≤ B (s + k) ∧ B (s + k) ≤ 57
      · exact z
      · rw [if_neg z] at b
        repeat' split at b
        all_goals omega
    rw [vlN, Int.pow_succ]
    omega
theorem p10 {k : Nat} (h : k ≤ 4) : (10 : Int) ^ k ≤ 10000 := by
  have e : k = 0 ∨ k = 1 ∨ k = 2 ∨ k = 3 ∨ k = 4 := by omega
  rcases e with rfl | rfl | rfl | rfl | rfl <;> decide
theorem dig {b : Int} (h : kdb b = 2) : 48 ≤ b ∧ b ≤ 57 := by
  unfold kdb at h
  by_cases z : 48 ≤ b ∧ b ≤ 57
  · exact z
  · rw [if_neg z] at h
    repeat' split at h
    all_goals omega
theorem wf_vl {B : Nat → Int} {N : Nat} {x : aX} (w : wfX B N x) (hk : kd B N x.2.2.1 = 2) : (∀ i : Nat, i < x.2.2.2 - x.2.2.1 → kdb (B (x.2.2.1 + i)) = 2) := fun i hi => by
  have a := (en_k (B := B) (N := N) (p := x.2.2.1) (Or.inr rfl) hk).2
  rw [← w.2.2.2.1] at a
  exact a _ (by omega) (by omega)
theorem value_eq {D : aD} {B : Nat → Int} {N q : Nat} {x : aX} (h : RD D B N q x) (hk : kd B N x.2.2.1 = 2) : f_X7_value D = some (cI (if x.2.2.2 - x.2.2.1 ≤ 4 then vlN B x.2.2.1 (x.2.2.2 - x.2.2.1) else 10000), D) := by
  have ⟨a2, a3, a4, a5, a6, a7, a8, ab, aw⟩ := h
  have we := wf_e aw
  have dg := wf_vl aw hk
  have hN := ab.1
  have ey : ((x.2.2.2 : Int) - (x.2.2.1 : Int)) = ((x.2.2.2 - x.2.2.1 : Nat) : Int) := by omega
  unfold f_X7_value
  rw [a4, a5, cI_sub, ey]
  by_cases c : x.2.2.2 - x.2.2.1 ≤ 4
  · rw [if_pos (show cI ((x.2.2.2 - x.2.2.1 : Nat) : Int) ≤ 4 by rw [cL4, cI_le (by omega) (by omega) (by omega) (by omega)]; omega), if_pos c, e_let]
    unfold J_X7_value_24
    have L : aLp (fun s : Int32 × Int32 × aD => B_X7_value_24 s.1 s.2.1 s.2.2) (cI 0, cI (x.2.2.1 : Int), D) = some (cI (vlN B x.2.2.1 (x.2.2.2 - x.2.2.1)), D) := by
      refine lp_cnt (body := fun s : Int32 × Int32 × aD => B_X7_value_24 s.1 s.2.1 s.2.2) (x.2.2.2 - x.2.2.1) (by omega) (fun i => (cI (vlN B x.2.2.1 i), cI ((x.2.2.1 + i : Nat) : Int), D)) (cI (vlN B x.2.2.1 (x.2.2.2 - x.2.2.1)), D) ?_ ?_
      · intro i hi
        have b := ab.2 (x.2.2.1 + i) (by omega)
        have d := dig (dg i hi)
        have f := bs_f b.1 b.2.1
        have fb : bSg (B (x.2.2.1 + i)) = B (x.2.2.1 + i) := by omega
        have e1 : (((x.2.2.1 + i : Nat) : Int)).toNat = x.2.2.1 + i := by omega
        show B_X7_value_24 (cI (vlN B x.2.2.1 i)) (cI ((x.2.2.1 + i : Nat) : Int)) D = some (.inl (cI (vlN B x.2.2.1 (i + 1)), cI ((x.2.2.1 + (i + 1) : Nat) : Int), D))
        unfold B_X7_value_24
        rw [a5, if_neg (show ¬ (cI (x.2.2.2 : Int) ≤ cI ((x.2.2.1 + i : Nat) : Int)) by rw [cI_le (by omega) (by omega) (by omega) (by omega)]; omega), e_gd (cI_inT (by omega) (by omega) (by omega)), cI_nat (by omega) (by omega), e1, b.2.2, fb, e_let, e_let, cL10, cI_mul, cI_add, cL48, cI_sub, cL1, cI_add]
        rfl
      · show B_X7_value_24 (cI (vlN B x.2.2.1 (x.2.2.2 - x.2.2.1))) (cI ((x.2.2.1 + (x.2.2.2 - x.2.2.1) : Nat) : Int)) D = _
        unfold B_X7_value_24
        rw [a5, if_pos (show cI (x.2.2.2 : Int) ≤ cI ((x.2.2.1 + (x.2.2.2 - x.2.2.1) : Nat) : Int) by rw [cI_le (by omega) (by omega) (by omega) (by omega)]; omega)]
    rw [show aLp (fun s : Int32 × Int32 × aD => B_X7_value_24 s.1 s.2.1 s.2.2) (0, cI (x.2.2.1 : Int), D) = _ from L]
    rfl
  · rw [if_neg (show ¬ (cI ((x.2.2.2 - x.2.2.1 : Nat) : Int) ≤ 4) by rw [cL4, cI_le (by omega) (by omega) (by omega) (by omega)]; omega), if_neg c]
    rfl
theorem nhere_ok {D : aD} {B : Nat → Int} {N q : Nat} {x : aX} {va vb : Int32} (a b : Int) (h : RD D B N q x) (ea : va = cI a) (eb : vb = cI b) (h0 : x.1 = 0) (ha : -1 ≤ a) (ha2 : a ≤ 10000) (hb : -1 ≤ b) (hb2 : b < 10000) : Ok (f_X7_numberHere va vb D) (fun r => r.1 = cI (nhX B N a b x).1 ∧ RD r.2 B N q (nhX B N a b x).2 ∧ f56 D r.2) := by
  have ⟨a2, a3, a4, a5, a6, a7, a8, ab, aw⟩ := h
  subst ea eb
  have r := kd_r B N x.2.2.1
  unfold f_X7_numberHere nhX
  rw [if_pos h0, a3]
  by_cases z : kd B N x.2.2.1 = 2
  · have dg := vl_b _ (wf_vl aw z)
    rw [if_pos (show cI (kd B N x.2.2.1) = 2 by rw [z]; rfl), if_pos z, value_eq h z, e_bi]
    have fl : Ok (J_X7_numberHere_30 (cI a) D) (fun r => r.1 = cI a ∧ RD r.2 B N q (flX 2 x) ∧ f56 D r.2) := by
      unfold J_X7_numberHere_30
      exact ok_bindI ((fail_ok 2 h rfl (by omega) (by omega)).mono fun D' k => ok_someI ⟨rfl, k⟩)
    by_cases c : x.2.2.2 - x.2.2.1 ≤ 4
    · have p := p10 c
      rw [if_pos c]
      by_cases c1 : vlN B x.2.2.1 (x.2.2.2 - x.2.2.1) < a
      · rw [if_pos (show cI (vlN B x.2.2.1 (x.2.2.2 - x.2.2.1)) < cI a by rw [cI_lt (by omega) (by omega) (by omega) (by omega)]; exact c1), if_neg (by omega)]
        exact fl
      · rw [if_neg (show ¬ (cI (vlN B x.2.2.1 (x.2.2.2 - x.2.2.1)) < cI a) by rw [cI_lt (by omega) (by omega) (by omega) (by omega)]; exact c1)]
        by_cases c2 : vlN B x.2.2.1 (x.2.2.2 - x.2.2.1) ≤ b
        · rw [if_pos (show cI (vlN B x.2.2.1 (x.2.2.2 - x.2.2.1)) ≤ cI b by rw [cI_le (by omega) (by omega) (by omega) (by omega)]; exact c2), if_pos (by omega)]
          exact ok_someI ⟨rfl, h, f56.rf⟩
        · rw [if_neg (show ¬ (cI (vlN B x.2.2.1 (x.2.2.2 - x.2.2.1)) ≤ cI b) by rw [cI_le (by omega) (by omega) (by omega) (by omega)]; exact c2), if_neg (by omega)]
          exact fl
    · rw [if_neg c, if_neg (show ¬ (x.2.2.2 - x.2.2.1 ≤ 4 ∧ a ≤ vlN B x.2.2.1 (x.2.2.2 - x.2.2.1) ∧ vlN B x.2.2.1 (x.2.2.2 - x.2.2.1) ≤ b) from fun y => c y.1)]
      by_cases c1 : (10000 : Int) < a
      · omega
      · rw [if_neg (show ¬ (cI 10000 < cI a) by rw [cI_lt (by omega) (by omega) (by omega) (by omega)]; exact c1), if_neg (show ¬ (cI 10000 ≤ cI b) by rw [cI_le (by omega) (by omega) (by omega) (by omega)]; omega)]
        exact fl
  · rw [if_neg (show ¬ (cI (kd B N x.2.2.1) = 2) by rw [cL2, cI_eq (by omega) (by omega) (by omega) (by omega)]; exact z), if_neg z]
    exact ok_bindI ((fail_ok 1 h rfl (by omega) (by omega)).mono fun D' k => ok_someI ⟨rfl, k⟩)
def nmX (B : Nat → Int) (N : Nat) (a b : Int) (x : aX) : Int × aX := nhX B N a b (tkX B N x)
theorem number_ok {D : aD} {B : Nat → Int} {N q : Nat} {x : aX} {va vb : Int32} (a b : Int) (h : RD D B N q x) (ea : va = cI a) (eb : vb = cI b) (ha : -1 ≤ a) (ha2 : a ≤ 10000) (hb : -1 ≤ b) (hb2 : b < 10000) : Ok (f_X7_number va vb D) (fun r => r.1 = cI (nmX B N a b x).1 ∧ RD r.2 B N q (nmX B N a b x).2 ∧ f56 D r.2) := by
  subst ea eb
  unfold f_X7_number nmX
  by_cases z : x.1 = 0
  · rw [if_pos (show gI D 56 7 = 0 by rw [fz h]; exact z)]
    refine ok_bindI ((takeX_ok h z).mono fun D1 k => ?_)
    refine ok_biI ((nhere_ok a b k.1 rfl rfl (tk_1.trans z) ha ha2 hb hb2).mono fun r k2 => ?_)
    exact ok_someI ⟨k2.1, k2.2.1, k.2.tr k2.2.2⟩
  · rw [if_neg (show ¬ (gI D 56 7 = 0) by rw [fz h]; exact z), tk_f z, nh_f z]
    exact ok_someI ⟨rfl, h, f56.rf⟩
theorem known_ok {D : aD} {B : Nat → Int} {N q : Nat} {x : aX} {vc : Int32} (c : Int) (h : RD D B N q x) (ec : vc = cI c) (hc : 0 ≤ c) (hc2 : c < 10000) : Ok (f_X7_known vc D) (fun r => r.1 = cI (khX B N c (tkX B N x)).1 ∧ RD r.2 B N q (khX B N c (tkX B N x)).2 ∧ f56 D r.2) := by
  subst ec
  unfold f_X7_known
  by_cases z : x.1 = 0
  · rw [if_pos (show gI D 56 7 = 0 by rw [fz h]; exact z)]
    refine ok_bindI ((takeX_ok h z).mono fun D1 k => ?_)
    have z1 : (tkX B N x).1 = 0 := tk_1.trans z
    refine ok_biI ((nhere_ok 0 9999 k.1 rfl rfl z1 (by omega) (by omega) (by omega) (by omega)).mono fun r k2 => ?_)
    obtain ⟨y, D2⟩ := r
    obtain ⟨e, k2, k3⟩ := k2
    obtain rfl : y = _ := e
    have k3' : f56 D1 D2 := k3
    have k2' : RD D2 B N q (nhX B N 0 9999 (tkX B N x)).2 := k2
    have r := nh_r (B := B) (N := N) (a := 0) (b := 9999) (x := tkX B N x) (by omega)
    unfold khX
    rw [if_pos z1]
    dsimp only
    by_cases w : (nhX B N 0 9999 (tkX B N x)).1 < c
    · rw [if_pos (show cI (nhX B N 0 9999 (tkX B N x)).1 < cI c by rw [cI_lt (by omega) (by omega) (by omega) (by omega)]; exact w)]
      refine ok_someI ?_
      by_cases u : (nhX B N 0 9999 (tkX B N x)).2.1 = 0
      · rw [if_pos u, if_pos w]
        exact ⟨rfl, k2', k.2.tr k3'⟩
      · rw [if_neg u]
        refine ⟨?_, k2', k.2.tr k3'⟩
        have e0 : (nhX B N 0 9999 (tkX B N x)).1 = 0 := by
          unfold nhX at u ⊢
          rw [if_pos z1] at u ⊢
          repeat' split at u
          all_goals first | rfl | exact absurd z1 u | skip
          · rename_i h1 h2
            rw [if_pos h1, if_neg h2]
          · rename_i h1
            rw [if_neg h1]
        rw [e0]
    · rw [if_neg (show ¬ (cI (nhX B N 0 9999 (tkX B N x)).1 < cI c) by rw [cI_lt (by omega) (by omega) (by omega) (by omega)]; exact w)]
      refine ok_bindI ((fail_ok 3 k2' rfl (by omega) (by omega)).mono fun D3 k4 => ok_someI ?_)
      by_cases u : (nhX B N 0 9999 (tkX B N x)).2.1 = 0
      · rw [if_pos u, if_neg w]
        refine ⟨rfl, ?_, (k.2.tr k3').tr k4.2⟩
        have e0 : (nhX B N 0 9999 (tkX B N x)).2 = tkX B N x := by
          unfold nhX at u ⊢
          rw [if_pos z1] at u ⊢
          by_cases h1 : kd B N (tkX B N x).2.2.1 = 2
          · rw [if_pos h1] at u ⊢
            split at u
            · rename_i h2
              rw [if_pos h2]
            · exact absurd u (fl_1 (by omega))
          · rw [if_neg h1] at u
            exact absurd u (fl_1 (by omega))
        have k5 := k4.1
        rw [e0] at k5
        exact k5
      · rw [if_neg u]
        refine ⟨rfl, ?_, (k.2.tr k3').tr k4.2⟩
        have k5 := k4.1
        rw [fl_f u] at k5
        exact k5
  · rw [if_neg (show ¬ (gI D 56 7 = 0) by rw [fz h]; exact z), tk_f z]
    unfold khX
    rw [if_neg z]
    exact ok_someI ⟨rfl, h, f56.rf⟩
theorem signed_ok {D : aD} {B : Nat → Int} {N q : Nat} {x : aX} {vm : Int32} (m : Int) (h : RD D B N q x) (em : vm = cI m) (hm : 0 ≤ m) (hm2 : m < 10000) : Ok (f_X7_signed vm D) (fun r => r.1 = cI (sgX B N m (tkX B N x)).1 ∧ RD r.2 B N q (sgX B N m (tkX B N x)).2 ∧ f56 D r.2) := by
  subst em
  unfold f_X7_signed sgX
  by_cases z : x.1 = 0
  · rw [if_pos (show gI D 56 7 = 0 by rw [fz h]; exact z)]
    refine ok_bindI ((takeX_ok h z).mono fun D1 k => ?_)
    have z1 : (tkX B N x).1 = 0 := tk_1.trans z
    have r := kd_r B N (tkX B N x).2.2.1
    rw [k.1.2.1]
    by_cases w : kd B N (tkX B N x).2.2.1 = 4
    · rw [if_pos (show cI (kd B N (tkX B N x).2.2.1) = 4 by rw [w]; rfl), if_pos ⟨z1, w⟩]
      refine ok_biI ((number_ok 0 m k.1 rfl rfl (by omega) (by omega) (by omega) (by omega)).mono fun r k2 => ok_someI ?_)
      exact ⟨by rw [k2.1, cI_neg]; rfl, k2.2.1, k.2.tr k2.2.2⟩
    · rw [if_neg (show ¬ (cI (kd B N (tkX B N x).2.2.1) = 4) by rw [cL4, cI_eq (by omega) (by omega) (by omega) (by omega)]; exact w), if_neg (fun y => w y.2)]
      refine ok_biI ((nhere_ok 0 m k.1 rfl rfl z1 (by omega) (by omega) (by omega) (by omega)).mono fun r k2 => ok_someI ?_)
      exact ⟨k2.1, k2.2.1, k.2.tr k2.2.2⟩
  · rw [if_neg (show ¬ (gI D 56 7 = 0) by rw [fz h]; exact z), tk_f z, if_neg (fun y => z y.1), nh_f z]
    exact ok_someI ⟨rfl, h, f56.rf⟩
theorem cell_ok {D : aD} {B : Nat → Int} {N q : Nat} {x : aX} {W H : Int} (h : RD D B N q x) (hW : gI D 22 0 = cI W) (hH : gI D 22 1 = cI H) (w1 : 2 ≤ W) (w2 : W ≤ 8) (h1 : 2 ≤ H) (h2 : H ≤ 8) : Ok (f_X7_cell D) (fun r => r.1 = cI ((nmX B N 0 (H - 1) (nmX B N 0 (W - 1) x).2).1 * W + (nmX B N 0 (W - 1) x).1) ∧ RD r.2 B N q (nmX B N 0 (H - 1) (nmX B N 0 (W - 1) x).2).2 ∧ f56 D r.2) := by
  unfold f_X7_cell
  rw [hW, cL1, cI_sub]
  refine ok_biI ((number_ok 0 (W - 1) h rfl rfl (by omega) (by omega) (by omega) (by omega)).mono fun r k => ?_)
  obtain ⟨y, D1⟩ := r
  obtain ⟨e, k1, k2⟩ := k
  obtain rfl : y = _ := e
  have k2' : f56 D D1 := k2
  have k1' : RD D1 B N q (nmX B N 0 (W - 1) x).2 := k1
  dsimp only
  rw [k2' 22 1 (by omega), hH, cI_sub]
  refine ok_biI ((number_ok 0 (H - 1) k1' rfl rfl (by omega) (by omega) (by omega) (by omega)).mono fun r k3 => ?_)
  obtain ⟨y2, D2⟩ := r
  obtain ⟨e, k3, k4⟩ := k3
  obtain rfl : y2 = _ := e
  have k4' : f56 D1 D2 := k4
  refine ok_someI ⟨?_, k3, k2'.tr k4'⟩
  dsimp only
  rw [k4' 22 0 (by omega), k2' 22 0 (by omega), hW, cI_mul, cI_add]
end NUM
