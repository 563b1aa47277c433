/-! best: the class's list, step and row -/
section MIN
noncomputable def cwN (T : aT) (p : Nat) : Nat := @ite _ (smE T p) (Classical.propDecidable _) (wyN T p) 1
theorem cw_p {T : aT} {p : Nat} (h : smE T p) : cwN T p = wyN T p := by unfold cwN; rw [if_pos h]
theorem cw_n {T : aT} {p : Nat} (h : ¬ smE T p) : cwN T p = 1 := by unfold cwN; rw [if_neg h]
noncomputable def mcN (T : aT) (l : List Nat) : List (Nat × Nat) := l.map (fun p => (p, cwN T p))
theorem mc_app {T : aT} {l : List Nat} {p : Nat} : mcN T (l ++ [p]) = mcN T l ++ [(p, cwN T p)] := by unfold mcN; rw [List.map_append]; rfl
theorem zr_app {m c : Nat} : ∀ (ms : List (Nat × Nat)) (H : Nat → Int), zrS (ms ++ [(m, c)]) H = upH (zrS ms H) m 0
  | [], H => rfl
  | (n, d) :: ms, H => zr_app ms (upH H n 0)
theorem mn_pre {T : aT} {g i : Nat} : ∀ d : Nat, ∃ R : List Nat, mnN T g (i + d) = mnN T g i ++ R
  | 0 => ⟨[], by rw [List.append_nil]; rfl⟩
  | d + 1 => by
    obtain ⟨R, h⟩ := mn_pre (T := T) (g := g) (i := i) d
    rw [← Nat.add_assoc, mn_s, h, List.append_assoc]
    exact ⟨_, rfl⟩
theorem CK_up {D : aD} {T : aT} {H : Nat → Int} {W : Nat → Prop} {m : Nat} {v : Int} (hK : CK D (hwT T H) W) : CK (pI D 63 m (cI v)) (hwT T (upH H m v)) W := by
  obtain ⟨a1, a2, a3⟩ := hK
  refine ⟨(gI_fr (by omega)).trans a1, fun p hp => ⟨?_, ?_, ?_⟩, fun w i p hz hi => ?_⟩
  · have k := (a2 p hp).1
    rw [hw_o (by omega)] at k ⊢
    exact (gI_fr (by omega)).trans k
  · have k := (a2 p hp).2.1
    rw [hw_o (by omega)] at k ⊢
    exact (gI_fr (by omega)).trans k
  · show gI _ 63 p = cI (upH H m v p)
    by_cases y : p = m
    · subst y; rw [gI_eq, upH_eq]
    · rw [gI_fr (by omega), upH_o y]; exact (a2 p hp).2.2
  · have k := a3 w i p hz hi
    rw [fr_hw, fr_hw] at k ⊢
    exact ⟨(gI_fr (by omega)).trans k.1, (gI_fr (by omega)).trans k.2⟩
theorem CK.fr2 {D D' : aD} {T : aT} {W : Nat → Prop} (hK : CK D T W) (e : ∀ k j : Nat, 60 ≤ k → k ≤ 65 → gI D' k j = gI D k j) : CK D' T W :=
  ⟨(e _ _ (by omega) (by omega)).trans hK.1, fun p hp => ⟨(e _ _ (by omega) (by omega)).trans (hK.2.1 p hp).1, (e _ _ (by omega) (by omega)).trans (hK.2.1 p hp).2.1, (e _ _ (by omega) (by omega)).trans (hK.2.1 p hp).2.2⟩, fun w i p hz hi => ⟨(e _ _ (by omega) (by omega)).trans (hK.2.2 w i p hz hi).1, (e _ _ (by omega) (by omega)).trans (hK.2.2 w i p hz hi).2⟩⟩
/-- the class's list of a garden's plants, their ways, and how they were -/
def lsD (D : aD) (T : aT) (H : Nat → Int) (l : List Nat) : Prop := mnD D 68 2 69 l ∧ ∀ i q : Nat, l[i]? = some q → gI D 70 i = cI ((cwN T q : Nat) : Int) ∧ gI D 71 i = cI (H q)
theorem list_ok {D : aD} {T : aT} {H : Nat → Int} {g : Nat} (hp : TOKp T) (hn : TOKn T) (hC : CP D 2 T) (hK : CK D (hwT T H) (wOn T)) (hg : (g : Int) < T 0 3) (hl : (mnA T g).length ≤ 6) :
    Ok (f_X3_listMine (cI (g : Int)) D) (fun D' => lsD D' T H (mnA T g) ∧ CK D' (hwT T (zrS (mcN T (mnA T g)) H)) (wOn T) ∧ ∀ k j : Nat, k ≠ 63 → ¬ (68 ≤ k ∧ k ≤ 71) → gI D' k j = gI D k j) := by
  have hq := hp.1
  unfold f_X3_listMine J_X3_listMine_7
  rw [e_let]
  refine ok_bindI (ok_lp (fun i t => t.1 = cI (i : Int) ∧ lsD t.2 T H (mnN T g i) ∧ CK t.2 (hwT T (zrS (mcN T (mnN T g i)) H)) (wOn T) ∧ ∀ k j : Nat, k ≠ 63 → ¬ (68 ≤ k ∧ k ≤ 71) → gI t.2 k j = gI D k j) (T 0 4).toNat (by omega) ⟨rfl, ⟨⟨gI_eq, fun i q h => by simp [mnN] at h⟩, fun i q h => by simp [mnN] at h⟩, CK.fr2 hK (fun k j a b => gI_fr (by omega)), fun k j a b => gI_fr (by omega)⟩ ?_)
  rintro i ⟨x, D1⟩ hi ⟨rfl, ⟨⟨g1, g1'⟩, g2⟩, g3, g4⟩
  show Ok (B_X3_listMine_7 (cI (g : Int)) (cI (i : Int)) D1) _
  have g4' : ∀ k j : Nat, k ≠ 63 → ¬ (68 ≤ k ∧ k ≤ 71) → gI D1 k j = gI D k j := g4
  have g1a : gI D1 68 2 = cI ((mnN T g i).length : Int) := g1
  have hC1 : CP D1 2 T := hC.fr hp (fun k j hk => g4' _ j (by omega) (by omega))
  obtain ⟨-, -, p3, -, -, -, -, p10, -⟩ := CP.two hC1
  have p4 := p3 4 (by omega) (by omega)
  have len := mn_len (T := T) (g := g) i
  have e : ((i : Int)).toNat = i := by omega
  have el : (((mnN T g i).length : Nat) : Int).toNat = (mnN T g i).length := by omega
  have fin : mnN T g i = mnA T g → Ok (J_X3_listMine_134 D1) (fun D' => lsD D' T H (mnA T g) ∧ CK D' (hwT T (zrS (mcN T (mnA T g)) H)) (wOn T) ∧ ∀ k j : Nat, k ≠ 63 → ¬ (68 ≤ k ∧ k ≤ 71) → gI D' k j = gI D k j) := fun z => by
    rw [← z]
    exact ok_someI ⟨⟨⟨g1, g1'⟩, g2⟩, g3, g4⟩
  unfold B_X3_listMine_7
  by_cases c : (i : Int) < T 0 4
  · obtain ⟨R, hR⟩ := mn_pre (T := T) (g := g) (i := i) ((T 0 4).toNat - i)
    rw [show i + ((T 0 4).toNat - i) = (T 0 4).toNat by omega] at hR
    have hR' : mnA T g = mnN T g i ++ R := hR
    have tl : (mnN T g i).length + R.length ≤ 6 := by rw [← List.length_append, ← hR']; exact hl
    by_cases six : (mnN T g i).length = 6
    · have r0 : R = [] := List.eq_nil_of_length_eq_zero (by omega)
      rw [r0, List.append_nil] at hR'
      simp (disch := omega) only [e_bi, e_bind, e_let, e_tr, e_tl, cLm1, cLm2, cL0, cL1, cL2, cL3, cL4, cL5, cL6, cL7, cL8, cL9, cL10, cL11, cL12, cL13, cL14, cL15, cL16, cL17, cL18, cL19, cL20, cL21, cL22, cL23, cL24, cL25, cL29, cL30, cL31, cL32, cL36, cL48, cL50, cL51, cL52, cL64, cL99, cL100, cL700, cL1000, cL9999, cL10000, cI_add, cI_sub, cI_mul, cI_neg, cI_lt, cI_le, cI_eq, ne_eq, ifp, ifn, bI_p, bI_n, aZ_0, aZ_1, aZ_b, e_gdt, e_ifT, e_ifF, not_true_eq_false, not_false_eq_true, e_gd, p4, g1a]
      exact ok_someI (Or.inr ⟨_, rfl, fin hR'.symm⟩)
    · have a10 : gI D1 10 i = cI (T 10 i) := p10 i c
      have r := hp.2.2.2.1 i c
      have st := mn_s (T := T) (g := g) (n := i)
      by_cases z : T 10 i = (g : Int)
      · rw [if_pos z] at st
        have hb := isHerb_eq (D := pI D1 69 (mnN T g i).length (cI (i : Int))) (a := (i : Int)) hp (hC1.fr hp (fun k j hk => gI_fr (by omega))) (by omega) c
        rw [e] at hb
        have ev := ever_ok (D := pI D1 69 (mnN T g i).length (cI (i : Int))) (p := i) hp hn (hC1.fr hp (fun k j hk => gI_fr (by omega))) (CK.fr2 g3 (fun k j a b => gI_fr (by omega))) c
        have r7 := hp.2.2.1 (T 8 i).toNat (by omega)
        have zH : zrS (mcN T (mnN T g i)) H i = H i := zr_o _ _ (fun q hq => by
          unfold mcN at hq
          obtain ⟨p, hp1, hp2⟩ := List.mem_map.mp hq
          have := (mn_mem hp1).1
          rw [← hp2]
          show p ≠ i
          omega)
        have c63 : gI D1 63 i = cI (H i) := by
          have k := (g3.2.1 i (by rw [hw_o (by omega)]; exact c)).2.2
          rw [hw_13, zH] at k
          exact k
        have rest : Ok (J_X3_listMine_89 (cI (g : Int)) (cI (i : Int)) (cI ((cwN T i : Nat) : Int)) (cI ((mnN T g i).length : Int)) (pI D1 69 (mnN T g i).length (cI (i : Int)))) (fun r => ∃ s' : Int32 × aD, r = .inl s' ∧ i < (T 0 4).toNat ∧ s'.1 = cI ((i + 1 : Nat) : Int) ∧ lsD s'.2 T H (mnN T g (i + 1)) ∧ CK s'.2 (hwT T (zrS (mcN T (mnN T g (i + 1))) H)) (wOn T) ∧ ∀ k j : Nat, k ≠ 63 → ¬ (68 ≤ k ∧ k ≤ 71) → gI s'.2 k j = gI D k j) := by
          unfold J_X3_listMine_89
          simp (disch := omega) only [e_bi, e_bind, e_let, e_tr, e_tl, cLm1, cLm2, cL0, cL1, cL2, cL3, cL4, cL5, cL6, cL7, cL8, cL9, cL10, cL11, cL12, cL13, cL14, cL15, cL16, cL17, cL18, cL19, cL20, cL21, cL22, cL23, cL24, cL25, cL29, cL30, cL31, cL32, cL36, cL48, cL50, cL51, cL52, cL64, cL99, cL100, cL700, cL1000, cL9999, cL10000, cI_add, cI_sub, cI_mul, cI_neg, cI_lt, cI_le, cI_eq, ne_eq, ifp, ifn, bI_p, bI_n, aZ_0, aZ_1, aZ_b, e_gdt, e_ifT, e_ifF, not_true_eq_false, not_false_eq_true, e_gd, cI_inT, cI_nat, e, el, gI_fr, g1a, c63]
          refine ok_someI ⟨_, rfl, by omega, rfl, ⟨⟨?_, fun n q h => ?_⟩, fun n q h => ?_⟩, ?_, fun k j a b => ?_⟩
          · rw [gI_eq, st, List.length_append]; rfl
          · rw [st] at h
            rw [gI_fr (by omega), gI_fr (by omega), gI_fr (by omega), gI_fr (by omega)]
            rcases push_get h with ⟨h1, h2⟩ | ⟨h1, h2⟩
            · subst h1; subst h2; exact gI_eq
            · rw [gI_fr (by omega)]; exact g1' n q h2
          · rw [st] at h
            rcases push_get h with ⟨h1, h2⟩ | ⟨h1, h2⟩
            · rw [h1, h2]
              exact ⟨(gI_fr (by omega)).trans ((gI_fr (by omega)).trans ((gI_fr (by omega)).trans gI_eq)), (gI_fr (by omega)).trans ((gI_fr (by omega)).trans gI_eq)⟩
            · have k := g2 n q h2
              exact ⟨(gI_fr (by omega)).trans ((gI_fr (by omega)).trans ((gI_fr (by omega)).trans ((gI_fr (by omega)).trans ((gI_fr (by omega)).trans k.1)))), (gI_fr (by omega)).trans ((gI_fr (by omega)).trans ((gI_fr (by omega)).trans ((gI_fr (by omega)).trans ((gI_fr (by omega)).trans k.2))))⟩
          · rw [st, mc_app, zr_app]
            refine CK.fr2 (CK_up (m := i) (v := 0) g3) (fun k j a b => ?_)
            rw [gI_fr (by omega)]
            by_cases y : k = 63 ∧ j = i
            · obtain ⟨rfl, rfl⟩ := y
              rw [gI_eq, gI_eq]
            · exact ((gI_fr (by omega)).trans ((gI_fr (by omega)).trans ((gI_fr (by omega)).trans (gI_fr (by omega))))).trans (gI_fr (by omega)).symm
          · rw [gI_fr (by omega), gI_fr (by omega), gI_fr (by omega), gI_fr (by omega), gI_fr (by omega)]
            exact g4' k j a b
        suffices hsu : ∀ Q : ((Int32 × aD) ⊕ aD) → Prop, (∀ r : ((Int32 × aD) ⊕ aD), (∃ s' : Int32 × aD, r = .inl s' ∧ i < (T 0 4).toNat ∧ s'.1 = cI ((i + 1 : Nat) : Int) ∧ lsD s'.2 T H (mnN T g (i + 1)) ∧ CK s'.2 (hwT T (zrS (mcN T (mnN T g (i + 1))) H)) (wOn T) ∧ ∀ k j : Nat, k ≠ 63 → ¬ (68 ≤ k ∧ k ≤ 71) → gI s'.2 k j = gI D k j) → Q r) → Ok (B_X3_listMine_7 (cI (g : Int)) (cI (i : Int)) D1) Q from hsu _ (fun r h => Or.inl h)
        intro Q hQ
        unfold B_X3_listMine_7
        simp (disch := omega) only [e_bi, e_bind, e_let, e_tr, e_tl, cLm1, cLm2, cL0, cL1, cL2, cL3, cL4, cL5, cL6, cL7, cL8, cL9, cL10, cL11, cL12, cL13, cL14, cL15, cL16, cL17, cL18, cL19, cL20, cL21, cL22, cL23, cL24, cL25, cL29, cL30, cL31, cL32, cL36, cL48, cL50, cL51, cL52, cL64, cL99, cL100, cL700, cL1000, cL9999, cL10000, cI_add, cI_sub, cI_mul, cI_neg, cI_lt, cI_le, cI_eq, ne_eq, ifp, ifn, bI_p, bI_n, aZ_0, aZ_1, aZ_b, e_gdt, e_ifT, e_ifF, not_true_eq_false, not_false_eq_true, e_gd, cI_inT, cI_nat, e, el, p4, g1a, a10]
        refine ok_biI (ev.mono fun r hr => ?_)
        obtain ⟨y, D2⟩ := r
        obtain ⟨d0, hr⟩ := hr
        obtain rfl : D2 = pI D1 69 (mnN T g i).length (cI (i : Int)) := d0
        have k68 : gI (pI D1 69 (mnN T g i).length (cI (i : Int))) 68 2 = cI ((mnN T g i).length : Int) := (gI_fr (by omega)).trans g1a
        rcases hr with ⟨s, y1⟩ | ⟨s, y1⟩
        · obtain rfl : y = cI 1 := y1
          rw [cw_p s] at rest
          have ew : ((wyN T i : Nat) : Int) = 2 + T 7 (T 8 i).toNat := by unfold wyN; omega
          rw [ew] at rest
          have r01 : T 7 (T 8 i).toNat = 0 ∨ T 7 (T 8 i).toNat = 1 := by omega
          rcases r01 with r01 | r01
          · rw [r01] at hb rest
            simp (disch := omega) only [e_bi, e_bind, e_let, e_tr, e_tl, cLm1, cLm2, cL0, cL1, cL2, cL3, cL4, cL5, cL6, cL7, cL8, cL9, cL10, cL11, cL12, cL13, cL14, cL15, cL16, cL17, cL18, cL19, cL20, cL21, cL22, cL23, cL24, cL25, cL29, cL30, cL31, cL32, cL36, cL48, cL50, cL51, cL52, cL64, cL99, cL100, cL700, cL1000, cL9999, cL10000, cI_add, cI_sub, cI_mul, cI_neg, cI_lt, cI_le, cI_eq, ne_eq, ifp, ifn, bI_p, bI_n, aZ_0, aZ_1, aZ_b, e_gdt, e_ifT, e_ifF, not_true_eq_false, not_false_eq_true, e_gd, hb, k68]
            exact rest.mono hQ
          · rw [r01] at hb rest
            simp (disch := omega) only [e_bi, e_bind, e_let, e_tr, e_tl, cLm1, cLm2, cL0, cL1, cL2, cL3, cL4, cL5, cL6, cL7, cL8, cL9, cL10, cL11, cL12, cL13, cL14, cL15, cL16, cL17, cL18, cL19, cL20, cL21, cL22, cL23, cL24, cL25, cL29, cL30, cL31, cL32, cL36, cL48, cL50, cL51, cL52, cL64, cL99, cL100, cL700, cL1000, cL9999, cL10000, cI_add, cI_sub, cI_mul, cI_neg, cI_lt, cI_le, cI_eq, ne_eq, ifp, ifn, bI_p, bI_n, aZ_0, aZ_1, aZ_b, e_gdt, e_ifT, e_ifF, not_true_eq_false, not_false_eq_true, e_gd, hb, k68]
            exact rest.mono hQ
        · obtain rfl : y = cI 0 := y1
          rw [cw_n s] at rest
          simp (disch := omega) only [e_bi, e_bind, e_let, e_tr, e_tl, cLm1, cLm2, cL0, cL1, cL2, cL3, cL4, cL5, cL6, cL7, cL8, cL9, cL10, cL11, cL12, cL13, cL14, cL15, cL16, cL17, cL18, cL19, cL20, cL21, cL22, cL23, cL24, cL25, cL29, cL30, cL31, cL32, cL36, cL48, cL50, cL51, cL52, cL64, cL99, cL100, cL700, cL1000, cL9999, cL10000, cI_add, cI_sub, cI_mul, cI_neg, cI_lt, cI_le, cI_eq, ne_eq, ifp, ifn, bI_p, bI_n, aZ_0, aZ_1, aZ_b, e_gdt, e_ifT, e_ifF, not_true_eq_false, not_false_eq_true, e_gd, k68]
          exact rest.mono hQ
      · rw [if_neg z, List.append_nil] at st
        simp (disch := omega) only [e_bi, e_bind, e_let, e_tr, e_tl, cLm1, cLm2, cL0, cL1, cL2, cL3, cL4, cL5, cL6, cL7, cL8, cL9, cL10, cL11, cL12, cL13, cL14, cL15, cL16, cL17, cL18, cL19, cL20, cL21, cL22, cL23, cL24, cL25, cL29, cL30, cL31, cL32, cL36, cL48, cL50, cL51, cL52, cL64, cL99, cL100, cL700, cL1000, cL9999, cL10000, cI_add, cI_sub, cI_mul, cI_neg, cI_lt, cI_le, cI_eq, ne_eq, ifp, ifn, bI_p, bI_n, aZ_0, aZ_1, aZ_b, e_gdt, e_ifT, e_ifF, not_true_eq_false, not_false_eq_true, e_gd, cI_inT, cI_nat, e, p4, g1a, a10]
        exact ok_someI (Or.inl ⟨_, rfl, by omega, rfl, by rw [st]; exact ⟨⟨g1, g1'⟩, g2⟩, by rw [st]; exact g3, g4⟩)
  · obtain rfl : i = (T 0 4).toNat := by omega
    simp (disch := omega) only [e_bi, e_bind, e_let, e_tr, e_tl, cLm1, cLm2, cL0, cL1, cL2, cL3, cL4, cL5, cL6, cL7, cL8, cL9, cL10, cL11, cL12, cL13, cL14, cL15, cL16, cL17, cL18, cL19, cL20, cL21, cL22, cL23, cL24, cL25, cL29, cL30, cL31, cL32, cL36, cL48, cL50, cL51, cL52, cL64, cL99, cL100, cL700, cL1000, cL9999, cL10000, cI_add, cI_sub, cI_mul, cI_neg, cI_lt, cI_le, cI_eq, ne_eq, ifp, ifn, bI_p, bI_n, aZ_0, aZ_1, aZ_b, e_gdt, e_ifT, e_ifF, not_true_eq_false, not_false_eq_true, e_gd, p4]
    exact ok_someI (Or.inr ⟨_, rfl, fin rfl⟩)
end MIN
