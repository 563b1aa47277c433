/-! groups: the greatest, class's side -/
section GRT
def vN (T : aT) (c h : Int) (q : Nat × Nat) (s : Nat) : Int := ntN T (mkN T (rkN T q.1 q.2 c h) s)
def lqN (l : List (Nat × Nat)) (i : Nat) : Nat × Nat := (l[i]?).getD (0, 0)
def okL (T : aT) (l : List (Nat × Nat)) : Prop := l.length ≤ 1925 ∧ ∀ q : Nat × Nat, q ∈ l → q.1 < 5 ∧ q.2 < mxK T ∧ 0 < T 0 (10 + q.1) ∧ caN T q.2 = true
theorem lq_m {l : List (Nat × Nat)} {i : Nat} (h : i < l.length) : l[i]? = some (lqN l i) ∧ lqN l i ∈ l := by
  have g := List.getElem?_eq_getElem h
  have e : lqN l i = l[i] := by unfold lqN; rw [g]; rfl
  rw [e]
  exact ⟨g, List.getElem_mem h⟩
theorem v_b {T : aT} {c h : Int} {q : Nat × Nat} (hp : TOKp T) (h2 : q.2 < mxK T) (h3 : 0 ≤ c) (h4 : c < T 0 0 * T 0 1) : ∀ s : Nat, s < 6 → 0 ≤ vN T c h q s ∧ vN T c h q s < 8192 := fun s hs => by
  have hq := hp.1
  have rb := rk_b (w := q.1) (h := h) hp h2 h3 h4
  have mk := mk_b hp.2.2.2.2.2 (by omega) rb hs
  have r := rb.1 s hs
  have nt := nt_b (T := T) mk.1 (show mkN T (rkN T q.1 q.2 c h) s ≤ 4680 by omega)
  unfold vN
  omega
def koK (T : aT) (c h : Int) (l : List (Nat × Nat)) (i : Nat) : Int64 × Int64 := koN T (vN T c h (lqN l i))
theorem great_ok {D : aD} {T : aT} {c h : Int} {l : List (Nat × Nat)} (hp : TOKp T) (hn : TOKn T) (hC : CP D 2 T) (hN : CNow D T) (hF : FD D T l) (hl : okL T l) (h3 : 0 ≤ c) (h4 : c < T 0 0 * T 0 1) (u1 : 0 ≤ h) (u2 : h < 24) :
    Ok (f_X10_greatestGroup (cI c) (cI h) D) (fun r => (∃ G : Nat, r.1 = cI (G : Int) ∧ isG (koK T c h l) l.length G) ∧ ∀ k j : Nat, ¬ (k = 58 ∨ k = 59 ∨ k = 81 ∨ (82 ≤ k ∧ k ≤ 87)) → gI r.2 k j = gI D k j) := by
  have hq := hp.1
  have hq2 := hn.1
  have mk := mxK_b (T := T) (by omega) (by omega)
  unfold f_X10_greatestGroup J_X10_greatestGroup_2
  refine ok_bindI (ok_lp (fun i t => t.1 = cI (i : Int) ∧ (∀ w j : Nat, w < i → 0 < T 0 (10 + w) → j < 6 → gI t.2 81 (w * 6 + j) = cI (rawN T c h w j)) ∧ ∀ k j : Nat, k ≠ 58 → k ≠ 59 → k ≠ 81 → gI t.2 k j = gI D k j) 5 (by omega) ⟨rfl, fun w j a => absurd a (by omega), fun _ _ _ _ _ => rfl⟩ ?_)
  rintro i ⟨x, D1⟩ hi ⟨rfl, g1, g2⟩
  show Ok (B_X10_greatestGroup_2 (cI c) (cI h) (cI (i : Int)) D1) _
  obtain ⟨hC1, hN1⟩ := cF hp hC hN (D' := D1) (fun k j hk => g2 k j (by omega) (by omega) (by omega))
  obtain ⟨-, -, -, q4, -⟩ := CP.two hC1
  have e : ((i : Int)).toNat = i := by omega
  unfold B_X10_greatestGroup_2
  by_cases x : i < 5
  · have q := q4 i x
    have a := hp.2.1 i x
    by_cases d : 0 < T 0 (10 + i)
    · simp (disch := omega) only [e_bi, e_bind, e_let, e_tr, e_tl, cLm1, cLm2, cL0, cL1, cL2, cL3, cL4, cL5, cL6, cL7, cL8, cL9, cL10, cL11, cL12, cL13, cL14, cL15, cL16, cL17, cL18, cL19, cL20, cL21, cL22, cL23, cL24, cL25, cL29, cL30, cL31, cL32, cL36, cL48, cL50, cL51, cL52, cL64, cL99, cL100, cL700, cL1000, cL9999, cL10000, cI_add, cI_sub, cI_mul, cI_neg, cI_lt, cI_le, cI_eq, ne_eq, ifp, ifn, bI_p, bI_n, aZ_0, aZ_1, aZ_b, e_gdt, e_ifT, e_ifF, not_true_eq_false, not_false_eq_true, e_gd, cI_inT, cI_nat, e, q]
      refine ok_bindI ((fillB_ok hp hn hC1 hN1 h3 h4 u1 u2 (by omega) (by omega)).mono fun D2 q => ?_)
      rw [save_eq (by omega), e_bind]
      refine ok_someI (Or.inl ⟨_, rfl, by omega, rfl, fun m j hm hz hj => ?_, fun k j a b d => ?_⟩)
      · show gI (aCp D2 58 81 (cI 0) (cI ((i : Int) * 6)) (cI 6)) 81 (m * 6 + j) = _
        rw [gI_cp (by omega) (by omega) (by omega) (by omega) (by omega) (by omega)]
        by_cases y : m = i
        · subst y
          rw [if_pos ⟨rfl, by omega, by omega⟩, show (0 : Int).toNat + (m * 6 + j - ((m : Int) * 6).toNat) = j by omega]
          exact q.1.1 j hj
        · rw [if_neg (by omega), q.2 _ _ (by omega) (by omega)]
          exact g1 m j (by omega) hz hj
      · show gI (aCp D2 58 81 (cI 0) (cI ((i : Int) * 6)) (cI 6)) k j = _
        rw [cp_N d, q.2 k j a b]
        exact g2 k j a b d
    · simp (disch := omega) only [e_bi, e_bind, e_let, e_tr, e_tl, cLm1, cLm2, cL0, cL1, cL2, cL3, cL4, cL5, cL6, cL7, cL8, cL9, cL10, cL11, cL12, cL13, cL14, cL15, cL16, cL17, cL18, cL19, cL20, cL21, cL22, cL23, cL24, cL25, cL29, cL30, cL31, cL32, cL36, cL48, cL50, cL51, cL52, cL64, cL99, cL100, cL700, cL1000, cL9999, cL10000, cI_add, cI_sub, cI_mul, cI_neg, cI_lt, cI_le, cI_eq, ne_eq, ifp, ifn, bI_p, bI_n, aZ_0, aZ_1, aZ_b, e_gdt, e_ifT, e_ifF, not_true_eq_false, not_false_eq_true, e_gd, cI_inT, cI_nat, e, q]
      refine ok_someI (Or.inl ⟨_, rfl, by omega, rfl, fun m j hm hz hj => ?_, g2⟩)
      by_cases y : m = i
      · subst y; exact absurd hz d
      · exact g1 m j (by omega) hz hj
  · obtain rfl : i = 5 := by omega
    simp (disch := omega) only [e_bi, e_bind, e_let, e_tr, e_tl, cLm1, cLm2, cL0, cL1, cL2, cL3, cL4, cL5, cL6, cL7, cL8, cL9, cL10, cL11, cL12, cL13, cL14, cL15, cL16, cL17, cL18, cL19, cL20, cL21, cL22, cL23, cL24, cL25, cL29, cL30, cL31, cL32, cL36, cL48, cL50, cL51, cL52, cL64, cL99, cL100, cL700, cL1000, cL9999, cL10000, cI_add, cI_sub, cI_mul, cI_neg, cI_lt, cI_le, cI_eq, ne_eq, ifp, ifn, bI_p, bI_n, aZ_0, aZ_1, aZ_b, e_gdt, e_ifT, e_ifF, not_true_eq_false, not_false_eq_true, e_gd]
    refine ok_someI (Or.inr ⟨_, rfl, ?_⟩)
    unfold J_X10_greatestGroup_47
    refine ok_bindI ((gclear_ok (K := koK T c h l)).mono fun D2 q => ?_)
    unfold J_X10_greatestGroup_56
    refine ok_bindI (ok_lp (fun i t => t.1 = cI (i : Int) ∧ GH t.2 (koK T c h l) i ∧ ∀ k j : Nat, ¬ (k = 58 ∨ (82 ≤ k ∧ k ≤ 87)) → gI t.2 k j = gI D1 k j) l.length (by have := hl.1; omega) ⟨rfl, q.1, fun k j a => q.2 k j (by omega)⟩ ?_)
    rintro i ⟨x, D3⟩ hi ⟨rfl, f1, f2⟩
    show Ok (B_X10_greatestGroup_56 (cI c) (cI h) (cI (i : Int)) D3) _
    have f3 : ∀ k j : Nat, ¬ (k = 58 ∨ k = 59 ∨ k = 81 ∨ (82 ≤ k ∧ k ≤ 87)) → gI D3 k j = gI D k j := fun k j a => (f2 k j (by omega)).trans (g2 k j (by omega) (by omega) (by omega))
    obtain ⟨hC3, hN3⟩ := cF hp hC hN (D' := D3) (fun k j hk => f3 k j (by omega))
    have c79 : gI D3 79 4 = cI (l.length : Int) := (f3 _ _ (by omega)).trans hF.1
    have ll := hl.1
    have e : ((i : Int)).toNat = i := by omega
    by_cases y : i < l.length
    · obtain ⟨gi, gm⟩ := lq_m y
      have em : koK T c h l i = koN T (vN T c h (lqN l i)) := rfl
      generalize lqN l i = q at gi gm em
      obtain ⟨b1, b2, b3, b4⟩ := hl.2 q gm
      have c80 : gI D3 80 i = cI (enC T q) := (f3 _ _ (by omega)).trans (hF.2 i q gi)
      have rb := rk_b (w := q.1) (h := h) hp b2 h3 h4
      have se : ∀ j : Nat, j < 6 → gI D3 81 (q.1 * 6 + j) = cI (rawN T c h q.1 j) := fun j hj => (f2 _ _ (by omega)).trans (g1 q.1 j (by omega) b3 hj)
      have ld : ∀ j : Nat, j < 6 → gI (aCp D3 81 58 (cI ((q.1 : Int) * 6)) (cI 0) (cI 6)) 58 j = cI (rawN T c h q.1 j) := fun j hj => by
        rw [gI_cp (by omega) (by omega) (by omega) (by omega) (by omega) (by omega), if_pos ⟨rfl, by omega, by omega⟩]
        rw [show ((q.1 : Int) * 6).toNat + (j - (0 : Int).toNat) = q.1 * 6 + j by omega]
        exact se j hj
      have ln : ∀ k' j : Nat, k' ≠ 58 → gI (aCp D3 81 58 (cI ((q.1 : Int) * 6)) (cI 0) (cI 6)) k' j = gI D3 k' j := fun k' j h => cp_N h
      have lj : ∀ k' j : Nat, gJ (aCp D3 81 58 (cI ((q.1 : Int) * 6)) (cI 0) (cI 6)) k' j = gJ D3 k' j := fun k' j => rfl
      generalize hDL : aCp D3 81 58 (cI ((q.1 : Int) * 6)) (cI 0) (cI 6) = DL at ld ln lj
      have lo := load_eq (D := D3) (i := q.1) (by omega)
      rw [hDL] at lo
      -- the rest, with what is smelt laid down
      have rest : ∀ D4 : aD, (∀ j : Nat, j < 6 → gI D4 58 j = cI (rkN T q.1 q.2 c h j)) → (∀ k' j : Nat, k' ≠ 58 → gI D4 k' j = gI D3 k' j) → (∀ k' j : Nat, gJ D4 k' j = gJ D3 k' j) → Ok (J_X10_greatestGroup_155 (cI c) (cI h) (cI (i : Int)) D4) (fun r => (∃ s' : Int32 × aD, r = .inl s' ∧ i < l.length ∧ s'.1 = cI ((i + 1 : Nat) : Int) ∧ GH s'.2 (koK T c h l) (i + 1) ∧ ∀ k j : Nat, ¬ (k = 58 ∨ (82 ≤ k ∧ k ≤ 87)) → gI s'.2 k j = gI D1 k j)) := by
        intro D4 m1 m2 m3
        obtain ⟨hC4, -⟩ := cF hp hC3 hN3 (D' := D4) (fun k j hk => m2 k j (by omega))
        have s0 := sm13_eq (f := 0) hp hC4 m1 rb (Or.inl rfl)
        have s3 := sm13_eq (f := 3) hp hC4 m1 rb (Or.inr rfl)
        have hG4 : GH D4 (koK T c h l) i := by
          obtain ⟨cc, gk, G, a0, a1, a2, a3, a4, a5, a6, a7⟩ := f1
          exact ⟨cc, gk, G, a0, (m2 _ _ (by omega)).trans a1, (m2 _ _ (by omega)).trans a2, a3, fun g hg => ⟨(m3 _ _).trans (a4 g hg).1, (m3 _ _).trans (a4 g hg).2.1, (m2 _ _ (by omega)).trans (a4 g hg).2.2.1, (m2 _ _ (by omega)).trans (a4 g hg).2.2.2⟩, fun s hs => (m2 _ _ (by omega)).trans (a5 s hs), a6, a7⟩
        unfold J_X10_greatestGroup_155
        rw [show f_X10_smellsFrom 0 D4 = _ from s0, e_bi, show f_X10_smellsFrom 3 D4 = _ from s3, e_bi]
        refine ok_bindI ((gadd_ok hG4 (by omega) em).mono fun D5 q5 => ?_)
        refine ok_someI ⟨_, rfl, y, ?_, q5.1, fun k j a => (q5.2 k j (by omega)).trans ((m2 k j (by omega)).trans (f2 k j a))⟩
        show cI (i : Int) + cI 1 = _
        rw [cI_add]
        rfl
      have dd : 0 ≤ enC T q ∧ enC T q < 2147483648 ∧ enC T q / 65536 = q.1 ∧ (q.2 = 0 → enC T q / 256 % 256 - 1 = -1) ∧ (q.2 ≠ 0 → enC T q / 256 % 256 - 1 = (ksN T q.2 : Nat) ∧ enC T q % 256 = (kcN T q.2 : Nat)) := by
        unfold enC
        by_cases z : q.2 = 0
        · rw [if_pos z]
          exact ⟨by omega, by omega, by omega, fun _ => by omega, fun w => absurd z w⟩
        · have v := kv_b (T := T) (k := q.2) (by omega) (by omega) b2 z
          rw [if_neg z]
          exact ⟨by omega, by omega, by omega, fun w => absurd w z, fun _ => ⟨by omega, by omega⟩⟩
      generalize enC T q = en at c80 dd
      obtain ⟨n1, n2, n3, n4, n5⟩ := dd
      by_cases z : q.2 = 0
      · have n4' := n4 z
        have ev : B_X10_greatestGroup_56 (cI c) (cI h) (cI (i : Int)) D3 = J_X10_greatestGroup_155 (cI c) (cI h) (cI (i : Int)) DL := by
          unfold B_X10_greatestGroup_56
          simp (disch := omega) only [e_bi, e_bind, e_let, e_tr, e_tl, cLm1, cLm2, cL0, cL1, cL2, cL3, cL4, cL5, cL6, cL7, cL8, cL9, cL10, cL11, cL12, cL13, cL14, cL15, cL16, cL17, cL18, cL19, cL20, cL21, cL22, cL23, cL24, cL25, cL29, cL30, cL31, cL32, cL36, cL48, cL50, cL51, cL52, cL64, cL99, cL100, cL700, cL1000, cL9999, cL10000, cI_add, cI_sub, cI_mul, cI_neg, cI_lt, cI_le, cI_eq, ne_eq, ifp, ifn, bI_p, bI_n, aZ_0, aZ_1, aZ_b, e_gdt, e_ifT, e_ifF, not_true_eq_false, not_false_eq_true, e_gd, cI_inT, cI_nat, e, c79, c80, u16c, u8c, a255c, n3, n4', lo]
        rw [ev]
        refine (rest DL (fun j hj => ?_) ln lj).mono fun r hr => Or.inl hr
        rw [ld j hj]
        unfold rkN
        rw [if_neg (fun w => w.1 z), Int.add_zero]
      · have v := kv_b (T := T) (k := q.2) (by omega) (by omega) b2 z
        obtain ⟨n5a, n5b⟩ := n5 z
        obtain ⟨hCL, hNL⟩ := cF hp hC3 hN3 (D' := DL) (fun k j hk => ln k j (by omega))
        obtain ⟨-, -, -, -, -, -, -, -, sw15, -⟩ := CNow.two hNL
        have d80 : gI DL 80 i = cI en := (ln _ _ (by omega)).trans c80
        have sq := scent_eq (D := DL) (s := ((ksN T q.2 : Nat) : Int)) (m := 1) (f := ((kcN T q.2 : Nat) : Int)) (t := c) (week := T 15 1) (hour := h) (w := (q.1 : Int)) hp hCL (by omega) v.1 (Or.inl rfl) (by omega) v.2.1 h3 h4 (by omega) (by omega) u1 (by omega) (by omega) (by omega)
        have es : (((ksN T q.2 : Nat) : Int)).toNat = ksN T q.2 := by omega
        have ls := ld (ksN T q.2) (by omega)
        have ev : B_X10_greatestGroup_56 (cI c) (cI h) (cI (i : Int)) D3 = J_X10_greatestGroup_155 (cI c) (cI h) (cI (i : Int)) (pI DL 58 (ksN T q.2) (cI (rawN T c h q.1 (ksN T q.2) + scN T (ksN T q.2 : Nat) 1 (kcN T q.2 : Nat) c (T 15 1) h q.1))) := by
          unfold B_X10_greatestGroup_56
          simp (disch := omega) only [e_bi, e_bind, e_let, e_tr, e_tl, cLm1, cLm2, cL0, cL1, cL2, cL3, cL4, cL5, cL6, cL7, cL8, cL9, cL10, cL11, cL12, cL13, cL14, cL15, cL16, cL17, cL18, cL19, cL20, cL21, cL22, cL23, cL24, cL25, cL29, cL30, cL31, cL32, cL36, cL48, cL50, cL51, cL52, cL64, cL99, cL100, cL700, cL1000, cL9999, cL10000, cI_add, cI_sub, cI_mul, cI_neg, cI_lt, cI_le, cI_eq, ne_eq, ifp, ifn, bI_p, bI_n, aZ_0, aZ_1, aZ_b, e_gdt, e_ifT, e_ifF, not_true_eq_false, not_false_eq_true, e_gd, cI_inT, cI_nat, e, es, c79, c80, d80, u16c, u8c, a255c, n3, n5a, n5b, lo, sw15, sq, ls]
        rw [ev]
        refine (rest _ (fun j hj => ?_) (fun k' j h => (gI_fr (by omega)).trans (ln k' j h)) (fun k' j => lj k' j)).mono fun r hr => Or.inl hr
        unfold rkN
        by_cases y : j = ksN T q.2
        · subst y
          rw [gI_eq, if_pos ⟨z, rfl⟩]
        · rw [gI_fr (by omega), ld j hj, if_neg (fun w => y w.2.symm), Int.add_zero]
    · obtain rfl : i = l.length := by omega
      unfold B_X10_greatestGroup_56
      simp (disch := omega) only [e_bi, e_bind, e_let, e_tr, e_tl, cLm1, cLm2, cL0, cL1, cL2, cL3, cL4, cL5, cL6, cL7, cL8, cL9, cL10, cL11, cL12, cL13, cL14, cL15, cL16, cL17, cL18, cL19, cL20, cL21, cL22, cL23, cL24, cL25, cL29, cL30, cL31, cL32, cL36, cL48, cL50, cL51, cL52, cL64, cL99, cL100, cL700, cL1000, cL9999, cL10000, cI_add, cI_sub, cI_mul, cI_neg, cI_lt, cI_le, cI_eq, ne_eq, ifp, ifn, bI_p, bI_n, aZ_0, aZ_1, aZ_b, e_gdt, e_ifT, e_ifF, not_true_eq_false, not_false_eq_true, e_gd, c79]
      refine ok_someI (Or.inr ⟨_, rfl, ?_⟩)
      obtain ⟨cc, gk, G, a0, a1, a2, a3, a4⟩ := f1
      exact ok_someI ⟨⟨G, a2, a3⟩, f3⟩
end GRT
