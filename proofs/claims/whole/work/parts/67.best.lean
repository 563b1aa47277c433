/-! best: answers (16) -/
section BST
def h13 (T : aT) (p : Nat) : Int := if (p : Int) < T 0 4 then T 13 p else 0
theorem h13_b {T : aT} (hn : TOKn T) : ∀ p : Nat, 0 ≤ h13 T p ∧ h13 T p ≤ 2 := fun p => by
  unfold h13
  by_cases c : (p : Int) < T 0 4
  · rw [if_pos c]; exact hn.2.1 p c
  · rw [if_neg c]; omega
theorem h13_e {T : aT} {p : Nat} (h : (p : Int) < T 0 4) : h13 T p = T 13 p := if_pos h
theorem CK_13 {D : aD} {T : aT} {W : Nat → Prop} (hK : CK D T W) : CK D (hwT T (h13 T)) W := by
  obtain ⟨a1, a2, a3⟩ := hK
  refine ⟨a1, fun p hp => ?_, fun w i p hz hi => ?_⟩
  · have hp' : (p : Int) < T 0 4 := by rw [hw_o (by omega)] at hp; exact hp
    have k := a2 p hp'
    rw [hw_o (by omega), hw_o (by omega), hw_13, h13_e hp']
    exact k
  · rw [fr_hw, fr_hw]
    rw [hw_o (by omega)] at hz hi
    exact a3 w i p hz hi
theorem MS_13 {D : aD} {T : aT} (hM : MS D T) : MS D (hwT T (h13 T)) := by
  obtain ⟨a1, a2, a3, a4, a5, a6, a7, a8, a9, a10⟩ := hM
  refine ⟨a1, fun f s a b => ?_, fun r p a b => ?_, a4, a5, a6, fun p a => ?_, a8, a9, a10⟩
  · rw [hw_o (by omega)]; exact a2 f s a b
  · rw [hw_o (by omega)]; exact a3 r p a b
  · rw [hw_13, h13_e (show (p : Int) < T 0 4 from a)]; exact a7 p a
theorem plantsOf_eq {D : aD} {T : aT} {g : Nat} (hp : TOKp T) (hC : CP D 2 T) (hg : (g : Int) < T 0 3) : f_X6_plantsOf (cI (g : Int)) D = some (cI ((mnA T g).length : Int), D) := by
  have hq := hp.1
  obtain ⟨-, -, p3, -, -, -, -, p10, -⟩ := CP.two hC
  have p4 := p3 4 (by omega) (by omega)
  have L : aLp (fun s : Int32 × Int32 × aD => B_X6_plantsOf_4 (cI (g : Int)) s.1 s.2.1 s.2.2) (cI 0, cI 0, D) = some (cI ((mnA T g).length : Int), D) := by
    refine lp_cnt (body := fun s : Int32 × Int32 × aD => B_X6_plantsOf_4 (cI (g : Int)) s.1 s.2.1 s.2.2) (T 0 4).toNat (by omega) (fun i => (cI ((mnN T g i).length : Int), cI (i : Int), D)) (cI ((mnA T g).length : Int), D) ?_ ?_
    · intro i hi
      have a10 := p10 i (by omega)
      have r := hp.2.2.2.1 i (by omega)
      have e : ((i : Int)).toNat = i := by omega
      have st := mn_s (T := T) (g := g) (n := i)
      show B_X6_plantsOf_4 (cI (g : Int)) (cI ((mnN T g i).length : Int)) (cI (i : Int)) D = _
      unfold B_X6_plantsOf_4
      by_cases z : T 10 i = (g : Int)
      · rw [if_pos z] at st
        rw [st, List.length_append]
        simp (disch := omega) only [e_bi, e_bind, e_let, e_tr, e_tl, cLm1, cLm2, cL0, cL1, cL2, cL3, cL4, cL5, cL6, cL7, cL8, cL9, cL10, cL11, cL12, cL13, cL14, cL15, cL16, cL17, cL18, cL19, cL20, cL21, cL22, cL23, cL24, cL25, cL29, cL30, cL31, cL32, cL36, cL48, cL50, cL51, cL52, cL64, cL99, cL100, cL700, cL1000, cL9999, cL10000, cI_add, cI_sub, cI_mul, cI_neg, cI_lt, cI_le, cI_eq, ne_eq, ifp, ifn, bI_p, bI_n, aZ_0, aZ_1, aZ_b, e_gdt, e_ifT, e_ifF, not_true_eq_false, not_false_eq_true, e_gd, cI_inT, cI_nat, e, p4, a10]
        rfl
      · rw [if_neg z, List.append_nil] at st
        rw [st]
        simp (disch := omega) only [e_bi, e_bind, e_let, e_tr, e_tl, cLm1, cLm2, cL0, cL1, cL2, cL3, cL4, cL5, cL6, cL7, cL8, cL9, cL10, cL11, cL12, cL13, cL14, cL15, cL16, cL17, cL18, cL19, cL20, cL21, cL22, cL23, cL24, cL25, cL29, cL30, cL31, cL32, cL36, cL48, cL50, cL51, cL52, cL64, cL99, cL100, cL700, cL1000, cL9999, cL10000, cI_add, cI_sub, cI_mul, cI_neg, cI_lt, cI_le, cI_eq, ne_eq, ifp, ifn, bI_p, bI_n, aZ_0, aZ_1, aZ_b, e_gdt, e_ifT, e_ifF, not_true_eq_false, not_false_eq_true, e_gd, cI_inT, cI_nat, e, p4, a10]
        rfl
    · show B_X6_plantsOf_4 (cI (g : Int)) (cI ((mnN T g (T 0 4).toNat).length : Int)) (cI ((T 0 4).toNat : Nat)) D = _
      unfold B_X6_plantsOf_4
      simp (disch := omega) only [e_bi, e_bind, e_let, e_tr, e_tl, cLm1, cLm2, cL0, cL1, cL2, cL3, cL4, cL5, cL6, cL7, cL8, cL9, cL10, cL11, cL12, cL13, cL14, cL15, cL16, cL17, cL18, cL19, cL20, cL21, cL22, cL23, cL24, cL25, cL29, cL30, cL31, cL32, cL36, cL48, cL50, cL51, cL52, cL64, cL99, cL100, cL700, cL1000, cL9999, cL10000, cI_add, cI_sub, cI_mul, cI_neg, cI_lt, cI_le, cI_eq, ne_eq, ifp, ifn, bI_p, bI_n, aZ_0, aZ_1, aZ_b, e_gdt, e_ifT, e_ifF, not_true_eq_false, not_false_eq_true, e_gd, p4]
      rfl
  unfold f_X6_plantsOf J_X6_plantsOf_4
  rw [show aLp (fun s : Int32 × Int32 × aD => B_X6_plantsOf_4 (cI (g : Int)) s.1 s.2.1 s.2.2) (0, 0, D) = _ from L]
  rfl
def rwV (X : Nat → Int) (l : List Nat) : Int := l.foldl (fun a p => 3 * a + X p) 0
theorem tunedRow_ok {D : aD} {l : List Nat} {X : Nat → Int} (hl : l.length ≤ 6) (h68 : gI D 68 2 = cI (l.length : Int)) (h72 : ∀ i p : Nat, l[i]? = some p → gI D 72 i = cI (X p)) : Ok (f_X3_tunedRow D) (fun r => r = (cI (rwV X l), D)) := by
  unfold f_X3_tunedRow J_X3_tunedRow_4
  refine ok_bindI (ok_lp (fun i t => t.2.2 = D ∧ t.2.1 = cI (i : Int) ∧ ∃ done rest : List Nat, l = done ++ rest ∧ done.length = i ∧ t.1 = cI (rwV X done)) l.length (by omega) ⟨rfl, rfl, [], l, rfl, rfl, rfl⟩ ?_)
  rintro i ⟨x1, x2, D1⟩ hi ⟨q1, q2, done, rest, q3, q4, q5⟩
  obtain rfl : D1 = D := q1
  obtain rfl : x2 = cI (i : Int) := q2
  obtain rfl : x1 = _ := q5
  show Ok (B_X3_tunedRow_4 (cI (rwV X done)) (cI (i : Int)) D1) _
  have e : ((i : Int)).toNat = i := by omega
  unfold B_X3_tunedRow_4
  by_cases c : i < l.length
  · match rest, q3 with
    | [], q3 =>
      have := congrArg List.length q3
      rw [List.append_nil] at this
      omega
    | p :: rest, q3 =>
      have gl : l[i]? = some p := by rw [q3, List.getElem?_append_right (by omega), q4, Nat.sub_self]; rfl
      have c72 := h72 i p gl
      have e3 : cI (rwV X done) * 3 + cI (X p) = cI (rwV X (done ++ [p])) := by
        rw [cL3, cI_mul, cI_add]
        unfold rwV
        rw [List.foldl_append, Int.mul_comm]
        rfl
      rw [h68, if_neg (show ¬ (cI (l.length : Int) ≤ cI (i : Int)) by rw [cI_le (by omega) (by omega) (by omega) (by omega)]; omega), e_gd (by rw [cI_inT] <;> omega), cI_nat (by omega) (by omega), e, c72, e3, e_let, e_let]
      exact ok_someI (Or.inl ⟨_, rfl, c, rfl, cI_add i 1, done ++ [p], rest, by rw [q3]; simp, by rw [List.length_append, q4]; rfl, rfl⟩)
  · obtain rfl : i = l.length := by omega
    have r0 : rest = [] := by
      have := congrArg List.length q3
      rw [List.length_append] at this
      exact List.eq_nil_of_length_eq_zero (by omega)
    rw [h68, if_pos (show cI (l.length : Int) ≤ cI (l.length : Int) by rw [cI_le (by omega) (by omega) (by omega) (by omega)]; omega)]
    refine ok_someI (Or.inr ⟨_, rfl, ok_someI ?_⟩)
    rw [q3, r0, List.append_nil]
theorem mrow_ok {D : aD} {l : List Nat} {X : Nat → Int} {b : Int} (hl : l.length ≤ 6) (h41 : gI D 88 41 = cI (l.length : Int)) (h114 : ∀ i p : Nat, l[i]? = some p → gI D 114 i = cI (X p)) : aLp (fun s : Int32 × Int32 × aD => B_X12_best_44 (cI b) s.1 s.2.1 s.2.2) (cI 0, cI 0, D) = some (cI (rwV X l), D) := by
  refine ok_eq (ok_lp (fun i t => t.2.2 = D ∧ t.2.1 = cI (i : Int) ∧ ∃ done rest : List Nat, l = done ++ rest ∧ done.length = i ∧ t.1 = cI (rwV X done)) l.length (by omega) ⟨rfl, rfl, [], l, rfl, rfl, rfl⟩ ?_)
  rintro i ⟨x1, x2, D1⟩ hi ⟨q1, q2, done, rest, q3, q4, q5⟩
  obtain rfl : D1 = D := q1
  obtain rfl : x2 = cI (i : Int) := q2
  obtain rfl : x1 = _ := q5
  show Ok (B_X12_best_44 (cI b) (cI (rwV X done)) (cI (i : Int)) D1) _
  have e : ((i : Int)).toNat = i := by omega
  unfold B_X12_best_44
  by_cases c : i < l.length
  · match rest, q3 with
    | [], q3 =>
      have := congrArg List.length q3
      rw [List.append_nil] at this
      omega
    | p :: rest, q3 =>
      have gl : l[i]? = some p := by rw [q3, List.getElem?_append_right (by omega), q4, Nat.sub_self]; rfl
      have c72 := h114 i p gl
      have e3 : (3 : Int32) * cI (rwV X done) + cI (X p) = cI (rwV X (done ++ [p])) := by
        rw [cL3, cI_mul, cI_add]
        unfold rwV
        rw [List.foldl_append]
        rfl
      rw [h41, if_neg (show ¬ (cI (l.length : Int) ≤ cI (i : Int)) by rw [cI_le (by omega) (by omega) (by omega) (by omega)]; omega), e_gd (by rw [cI_inT] <;> omega), cI_nat (by omega) (by omega), e, c72, e3, e_let, e_let]
      exact ok_someI (Or.inl ⟨_, rfl, c, rfl, cI_add i 1, done ++ [p], rest, by rw [q3]; simp, by rw [List.length_append, q4]; rfl, rfl⟩)
  · obtain rfl : i = l.length := by omega
    have r0 : rest = [] := by
      have := congrArg List.length q3
      rw [List.length_append] at this
      exact List.eq_nil_of_length_eq_zero (by omega)
    rw [h41, if_pos (show cI (l.length : Int) ≤ cI (l.length : Int) by rw [cI_le (by omega) (by omega) (by omega) (by omega)]; omega)]
    refine ok_someI (Or.inr ⟨_, rfl, ?_⟩)
    rw [q3, r0, List.append_nil]
/-- both searches find the same -/
def bsT (T : aT) (g : Nat) (H : Nat → Int) : Int × (Nat → Int) := (rwF (msN T (mnA T g)) H).foldl (fsV (valN T g)) (-1, H)
theorem red_eq {T : aT} {g : Nat} {H : Nat → Int} {st : Int × (Nat → Int)} (hp : TOKp T) (hT : TOKs T) : (rwF (msN T (mnA T g)) H).foldl (fsV (valN T g)) st = (rwF (mcN T (mnA T g)) H).foldl (fsV (valN T g)) st := by
  have e : mcN T (mnA T g) = (msN T (mnA T g)).map (fun q => (q.1, cwN T q.1)) := by
    unfold mcN msN
    rw [List.map_map]
    rfl
  rw [e]
  refine rw_red (c' := fun q => cwN T q.1) _ H st ?_ (fun q hq => ?_)
  · have e2 : (msN T (mnA T g)).map Prod.fst = mnA T g := by
      unfold msN
      rw [List.map_map]
      exact List.map_id _
    rw [e2]
    exact List.Nodup.sublist List.filter_sublist List.nodup_range
  · unfold msN at hq
    obtain ⟨p, p1, p2⟩ := List.mem_map.mp hq
    subst p2
    by_cases s : smE T p
    · exact Or.inl (cw_p s)
    · exact Or.inr ⟨cw_n s, by show 0 < wyN T p; unfold wyN; omega, fun H v => val_irr hT s⟩
theorem bs_nn {T : aT} {g : Nat} {H : Nat → Int} (hp : TOKp T) (hT : TOKs T) : 0 ≤ (bsT T g H).1 := by
  have e : bsT T g H = (rwF (mcN T (mnA T g)) H).foldl (fsV (valN T g)) (-1, H) := red_eq hp hT
  have nd := mc_nd (T := T) (g := g) (mn_cw (g := g) hp (Nat.le_refl (T 0 4).toNat))
  obtain ⟨L, hL⟩ := rw_hd (mcN T (mnA T g)) H nd
  have k := fv_ge (val := valN T g) (rwF (mcN T (mnA T g)) H) (-1, H) (zrS (mcN T (mnA T g)) H) (by rw [hL]; simp)
  have v := val_b (g := g) (H := zrS (mcN T (mnA T g)) H) hp.2.1
  rw [e]
  exact Int.le_trans v.1 k
theorem tellBest_ok {D : aD} {T : aT} {g : Nat} {H : Nat → Int} (hT : TOKs T) (hP : T 0 4 ≤ 12) (hM : MS D (hwT T H)) (hg : (g : Int) < T 0 3) (hH : ∀ p : Nat, 0 ≤ H p ∧ H p ≤ 2) :
    Ok (f_X12_tellBest (cI (g : Int)) D) (fun r => ((6 < (mnA T g).length ∧ r.1 = cI 0) ∨ ((mnA T g).length ≤ 6 ∧ r.1 = cI 1 ∧ bsD r.2 (mnA T g) (bsT T g H) ∧ mnD r.2 88 41 113 (mnA T g))) ∧ MS r.2 (hwT T H) ∧
      (∀ k j : Nat, ¬ (108 ≤ k ∧ k ≤ 114) → ¬ (k = 106 ∧ (j : Int) < T 0 4) → ¬ (k = 88 ∧ (j = 41 ∨ j = 42)) → gI r.2 k j = gI D k j) ∧ r.2.2 = D.2) := by
  have hq := hT.1
  unfold f_X12_tellBest
  refine ok_bindI ((tellMine_ok (T := hwT T H) (hw_ok hT (fun p _ => hH p)) hP hM hg).mono fun D1 q => ?_)
  obtain ⟨q1, q2, q3⟩ := q
  have q1' : mnD D1 88 41 113 (mnA T g) := q1
  have len := mn_len (T := T) (g := g) (T 0 4).toNat
  have len' : (mnA T g).length ≤ (T 0 4).toNat := len
  have hM1 : MS D1 (hwT T H) := hM.fr (fun k j a => q2 k j (by omega) (by omega)) (fun j a b => q2 _ j (by omega) (by omega))
  rw [q1'.1]
  by_cases c : (mnA T g).length ≤ 6
  · rw [if_pos (show cI ((mnA T g).length : Int) ≤ 6 by rw [cL6, cI_le (by omega) (by omega) (by omega) (by omega)]; omega), e_let]
    have call := turnOn_ok (T := T) (g := g) (n := (mnA T g).length) (l := mnA T g) hT hP hg rfl c (fun p h => by have := (mn_mem h).1; omega) (mnA T g) 8 0 H (pI D1 88 42 (cI (-1))) (-1, H) rfl (by omega) (by omega) hH (hM1.fr (fun k j a => gI_fr (by omega)) (fun j a b => gI_fr (by omega))) ⟨(gI_fr (by omega)).trans q1'.1, fun i q h => (gI_fr (by omega)).trans (q1'.2 i q h)⟩ ⟨gI_eq, fun z => absurd rfl z⟩ ⟨by show (-1 : Int) ≤ -1; omega, by show (-1 : Int) ≤ 1000; omega⟩
    refine ok_bindI (Ok.mono (show Ok (f_X12_turnOn (cI (g : Int)) 0 (pI D1 88 42 (-1))) _ from call) fun D2 q => ?_)
    obtain ⟨k1, -, k3, k4⟩ := q
    refine ok_someI ⟨Or.inr ⟨c, rfl, k1, ⟨?_, fun i q h => ?_⟩⟩, k3, fun k j a b d => ?_, k4.2.trans q3⟩
    · exact (k4.1 _ _ (by omega) (by omega) (by omega) (by omega)).trans ((gI_fr (by omega)).trans q1'.1)
    · exact (k4.1 _ _ (by omega) (by omega) (by omega) (by omega)).trans ((gI_fr (by omega)).trans (q1'.2 i q h))
    · exact (k4.1 k j (by omega) (by omega) b (by omega)).trans ((gI_fr (by omega)).trans (q2 k j (by omega) (by omega)))
  · rw [if_neg (show ¬ (cI ((mnA T g).length : Int) ≤ 6) by rw [cL6, cI_le (by omega) (by omega) (by omega) (by omega)]; omega)]
    exact ok_someI ⟨Or.inl ⟨by omega, rfl⟩, hM1, fun k j a b d => q2 k j (by omega) (by omega), q3⟩
end BST
