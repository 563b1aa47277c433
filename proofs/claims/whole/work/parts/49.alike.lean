/-! groups: the reference's side -/
section ALK
theorem cs_all {T : aT} {q : Nat × Nat} : ∀ w : Nat, q ∈ csN T w → 0 < T 0 (10 + q.1) ∧ caN T q.2 = true
  | 0, h => by cases h
  | w + 1, h => by
    rw [csN, List.mem_append] at h
    rcases h with h | h
    · exact cs_all w h
    · split at h
      · rename_i z
        have e := (cf_mem _ h).1
        rw [e]
        refine ⟨z, ?_⟩
        have key : ∀ n : Nat, q ∈ cfN T w n → caN T q.2 = true := by
          intro n
          induction n with
          | zero => intro h; cases h
          | succ n ih =>
            intro h
            rw [cfN, List.mem_append] at h
            rcases h with h | h
            · exact ih h
            · split at h
              · rename_i y
                rw [List.mem_singleton] at h
                subst h
                exact (Bool.and_eq_true_iff.mp y).1
              · cases h
        exact key _ h
      · cases h
theorem cs_okL {T : aT} (hp : TOKp T) : okL T (csN T 5) := by
  have hq := hp.1
  have mk := mxK_b (T := T) (by omega) (by omega)
  have len := cs_len (T := T) 5
  exact ⟨by omega, fun q hq => ⟨(cs_mem 5 hq).1, (cs_mem 5 hq).2, cs_all 5 hq⟩⟩
theorem ct_fst {α : Type} [DecidableEq α] {K : Nat → α} {x : α} : ∀ n : Nat, ctN K x n = 0 ∨ ∃ f : Nat, f < n ∧ K f = x ∧ ctN K x f = 0
  | 0 => Or.inl rfl
  | n + 1 => by
    rcases ct_fst (K := K) (x := x) n with h | ⟨f, a, b, c⟩
    · by_cases z : K n = x
      · exact Or.inr ⟨n, by omega, z, h⟩
      · exact Or.inl (by rw [ctN, h, if_neg z])
    · exact Or.inr ⟨f, by omega, b, c⟩
theorem ct_add {α : Type} [DecidableEq α] {K : Nat → α} {x : α} {f : Nat} : ∀ d : Nat, ctN K x (f + d) ≤ ctN K x f + d
  | 0 => by simp
  | d + 1 => by
    have := ct_add (K := K) (x := x) (f := f) d
    rw [← Nat.add_assoc, ctN]
    split <;> omega
theorem isG_cut {α : Type} [DecidableEq α] {K : Nat → α} {n b i : Nat} (h1 : ∀ a : Nat, a < i → ctN K (K a) n ≤ b + ctN K (K a) a) (h2 : (i = 0 ∧ b = 0) ∨ ∃ a : Nat, a < i ∧ b ≤ ctN K (K a) n) (hi : i ≤ n) (h : n ≤ i + b) : isG K n b := by
  refine ⟨fun a ha => ?_, ?_⟩
  · have e1 : ctN K (K a) (a + 1) ≠ 0 := by rw [ctN, if_pos rfl]; omega
    rcases ct_fst (K := K) (x := K a) (a + 1) with z | ⟨f, f1, f2, f3⟩
    · exact absurd z e1
    · by_cases c : f < i
      · have := h1 f c
        rw [f2, f3] at this
        omega
      · have := ct_add (K := K) (x := K a) (f := f) (n - f)
        rw [show f + (n - f) = n by omega, f3] at this
        omega
  · rcases h2 with z | ⟨a, a1, a2⟩
    · exact Or.inl ⟨by omega, z.2⟩
    · exact Or.inr ⟨a, by omega, a2⟩
def kyK (T : aT) (c h : Int) (l : List (Nat × Nat)) (i : Nat) : List Int := (List.range (T 0 2).toNat).map (vN T c h (lqN l i))
theorem ky_iff {T : aT} {c h : Int} {l : List (Nat × Nat)} {i j : Nat} : kyK T c h l i = kyK T c h l j ↔ ∀ s : Nat, s < (T 0 2).toNat → vN T c h (lqN l i) s = vN T c h (lqN l j) s := by
  unfold kyK
  rw [List.map_inj_left]
  simp only [List.mem_range]
def vD (D : aD) (T : aT) (c h : Int) (l : List (Nat × Nat)) (n : Nat) : Prop := ∀ a s : Nat, a < n → s < (T 0 2).toNat → gI D 123 (6 * a + s) = cI (vN T c h (lqN l a) s)
theorem alike_ok {D : aD} {T : aT} {c h : Int} {l : List (Nat × Nat)} {a b : Nat} (hp : TOKp T) (m2 : gI D 91 2 = cI (T 0 2)) (hl : okL T l) (hV : vD D T c h l l.length) (h3 : 0 ≤ c) (h4 : c < T 0 0 * T 0 1) (ha : a < l.length) (hb : b < l.length) :
    f_X12_isAlike (cI (a : Int)) (cI (b : Int)) D = some (cI (if kyK T c h l b = kyK T c h l a then 1 else 0), D) := by
  have hq := hp.1
  have ll := hl.1
  have va := v_b (h := h) hp (hl.2 _ (lq_m ha).2).2.1 h3 h4
  have vb := v_b (h := h) hp (hl.2 _ (lq_m hb).2).2.1 h3 h4
  refine ok_eq ?_
  unfold f_X12_isAlike J_X12_isAlike_2
  refine ok_bindI (ok_lp (fun i t => t.1 = cI (i : Int) ∧ t.2 = D ∧ ∀ s : Nat, s < i → vN T c h (lqN l b) s = vN T c h (lqN l a) s) (T 0 2).toNat (by omega) ⟨rfl, rfl, fun s hs => absurd hs (by omega)⟩ ?_)
  rintro i ⟨x, D1⟩ hi ⟨q1, q2, q3⟩
  obtain rfl : x = cI (i : Int) := q1
  obtain rfl : D1 = D := q2
  show Ok (B_X12_isAlike_2 (cI (a : Int)) (cI (b : Int)) (cI (i : Int)) D1) _
  unfold B_X12_isAlike_2
  by_cases y : i < (T 0 2).toNat
  · have ea : (6 * (a : Int) + (i : Int)).toNat = 6 * a + i := by omega
    have eb : (6 * (b : Int) + (i : Int)).toNat = 6 * b + i := by omega
    have wa := hV a i ha y
    have wb := hV b i hb y
    have vai := va i (by omega)
    have vbi := vb i (by omega)
    by_cases z : vN T c h (lqN l a) i = vN T c h (lqN l b) i
    · simp (disch := omega) only [e_bi, e_bind, e_let, e_tr, e_tl, cLm1, cLm2, cL0, cL1, cL2, cL3, cL4, cL5, cL6, cL7, cL8, cL9, cL10, cL11, cL12, cL13, cL14, cL15, cL16, cL17, cL18, cL19, cL20, cL21, cL22, cL23, cL24, cL25, cL29, cL30, cL31, cL32, cL36, cL48, cL50, cL51, cL52, cL64, cL99, cL100, cL700, cL1000, cL9999, cL10000, cI_add, cI_sub, cI_mul, cI_neg, cI_lt, cI_le, cI_eq, ne_eq, ifp, ifn, bI_p, bI_n, aZ_0, aZ_1, aZ_b, e_gdt, e_ifT, e_ifF, not_true_eq_false, not_false_eq_true, e_gd, cX0, cX1, cX2, cX3, cX4, cX5, cX6, cX7, cX8, cX9, cX10, cX11, cX12, cX13, cX14, cX15, cX16, cX17, cX18, cX19, cX20, cX21, cX22, cX23, cX24, cX25, cX29, cX30, cX31, cX32, cX36, Int.reduceToNat, cI_inT, cI_nat, m2, ea, eb, wa, wb]
      refine ok_someI (Or.inl ⟨_, rfl, by omega, rfl, rfl, fun s hs => ?_⟩)
      by_cases w : s = i
      · subst w; exact z.symm
      · exact q3 s (by omega)
    · simp (disch := omega) only [e_bi, e_bind, e_let, e_tr, e_tl, cLm1, cLm2, cL0, cL1, cL2, cL3, cL4, cL5, cL6, cL7, cL8, cL9, cL10, cL11, cL12, cL13, cL14, cL15, cL16, cL17, cL18, cL19, cL20, cL21, cL22, cL23, cL24, cL25, cL29, cL30, cL31, cL32, cL36, cL48, cL50, cL51, cL52, cL64, cL99, cL100, cL700, cL1000, cL9999, cL10000, cI_add, cI_sub, cI_mul, cI_neg, cI_lt, cI_le, cI_eq, ne_eq, ifp, ifn, bI_p, bI_n, aZ_0, aZ_1, aZ_b, e_gdt, e_ifT, e_ifF, not_true_eq_false, not_false_eq_true, e_gd, cX0, cX1, cX2, cX3, cX4, cX5, cX6, cX7, cX8, cX9, cX10, cX11, cX12, cX13, cX14, cX15, cX16, cX17, cX18, cX19, cX20, cX21, cX22, cX23, cX24, cX25, cX29, cX30, cX31, cX32, cX36, Int.reduceToNat, cI_inT, cI_nat, m2, ea, eb, wa, wb]
      refine ok_someI (Or.inr ⟨_, rfl, ?_⟩)
      have w : ¬ (kyK T c h l b = kyK T c h l a) := fun w => z ((ky_iff.mp w) i y).symm
      rw [if_neg w]
      exact ok_someI rfl
  · obtain rfl : i = (T 0 2).toNat := by omega
    simp (disch := omega) only [e_bi, e_bind, e_let, e_tr, e_tl, cLm1, cLm2, cL0, cL1, cL2, cL3, cL4, cL5, cL6, cL7, cL8, cL9, cL10, cL11, cL12, cL13, cL14, cL15, cL16, cL17, cL18, cL19, cL20, cL21, cL22, cL23, cL24, cL25, cL29, cL30, cL31, cL32, cL36, cL48, cL50, cL51, cL52, cL64, cL99, cL100, cL700, cL1000, cL9999, cL10000, cI_add, cI_sub, cI_mul, cI_neg, cI_lt, cI_le, cI_eq, ne_eq, ifp, ifn, bI_p, bI_n, aZ_0, aZ_1, aZ_b, e_gdt, e_ifT, e_ifF, not_true_eq_false, not_false_eq_true, e_gd, cX0, cX1, cX2, cX3, cX4, cX5, cX6, cX7, cX8, cX9, cX10, cX11, cX12, cX13, cX14, cX15, cX16, cX17, cX18, cX19, cX20, cX21, cX22, cX23, cX24, cX25, cX29, cX30, cX31, cX32, cX36, Int.reduceToNat, cI_inT, cI_nat, m2]
    refine ok_someI (Or.inr ⟨_, rfl, ?_⟩)
    have w : kyK T c h l b = kyK T c h l a := ky_iff.mpr q3
    rw [if_pos w]
    exact ok_someI rfl
/-- a case grown -/
theorem isC_ok {D : aD} {T : aT} {i n : Nat} (hp : TOKp T) (hn : TOKn T) (hM : MS D T) (hi : i < 5) (hk : n < mxK T) (z : 0 < T 0 (10 + i)) (ca : caN T n = true) :
    ∃ (T' : aT) (D3 : aD), f_X12_isCase (cI (i : Int)) (cI (n : Int)) D = some (cI 1, D3) ∧ TOKs T' ∧ scn T T' ∧ MS D3 T' ∧ (∀ (c h : Int) (j : Nat), j < 6 → rawN T' c h i j = rkN T i n c h j) ∧
      (∀ k j : Nat, ¬ (k = 88 ∧ j = 30) → ¬ (j = (T 0 4).toNat ∧ (k = 99 ∨ k = 100 ∨ k = 101 ∨ k = 106)) → gI D3 k j = gI D k j) ∧ D3.2 = D.2 := by
  have hq := hp.1
  have hq2 := hn.1
  have hT := TOKs.of hp hn
  have cl : ((clN T : Nat) : Int) = T 0 0 * T 0 1 := by unfold clN; omega
  have mk := mxK_b (T := T) (by omega) (by omega)
  have m0 := hM.1 0 (by omega) (by omega)
  have m1 := hM.1 1 (by omega) (by omega)
  have m30 := hM.2.2.2.2.2.1
  have mw := hM.1 (10 + i) (by omega) (by omega)
  have ew : (10 + (i : Int)).toNat = 10 + i := by omega
  have wb := hp.2.1 i hi
  by_cases k0 : n = 0
  · refine ⟨T, D, ?_, hT, scn.rf, hM, fun c h j hj => by unfold rkN; rw [if_neg (fun y => y.1 k0), Int.add_zero], fun _ _ _ _ => rfl, rfl⟩
    unfold f_X12_isCase
    simp (disch := omega) only [e_bi, e_bind, e_let, e_tr, e_tl, cLm1, cLm2, cL0, cL1, cL2, cL3, cL4, cL5, cL6, cL7, cL8, cL9, cL10, cL11, cL12, cL13, cL14, cL15, cL16, cL17, cL18, cL19, cL20, cL21, cL22, cL23, cL24, cL25, cL29, cL30, cL31, cL32, cL36, cL48, cL50, cL51, cL52, cL64, cL99, cL100, cL700, cL1000, cL9999, cL10000, cI_add, cI_sub, cI_mul, cI_neg, cI_lt, cI_le, cI_eq, ne_eq, ifp, ifn, bI_p, bI_n, aZ_0, aZ_1, aZ_b, e_gdt, e_ifT, e_ifF, not_true_eq_false, not_false_eq_true, e_gd, cX0, cX1, cX2, cX3, cX4, cX5, cX6, cX7, cX8, cX9, cX10, cX11, cX12, cX13, cX14, cX15, cX16, cX17, cX18, cX19, cX20, cX21, cX22, cX23, cX24, cX25, cX29, cX30, cX31, cX32, cX36, Int.reduceToNat, cI_inT, cI_nat, ew, m0, m1, mw]
  · have v := kv_b (T := T) (k := n) (by omega) (by omega) hk k0
    have ecl : T 0 0 * T 0 1 = ((clN T : Nat) : Int) := cl.symm
    have dv : ((n : Int) - 1) / (T 0 0 * T 0 1) = ((ksN T n : Nat) : Int) := by
      rw [ecl, show (n : Int) - 1 = ((n - 1 : Nat) : Int) by omega, ← Int.natCast_ediv]
      rfl
    have rm : ((n : Int) - 1) % (T 0 0 * T 0 1) = ((kcN T n : Nat) : Int) := by
      rw [ecl, show (n : Int) - 1 = ((n - 1 : Nat) : Int) by omega, ← Int.natCast_emod]
      rfl
    have rm' : (n : Int) - 1 - ((ksN T n : Nat) : Int) * (T 0 0 * T 0 1) = ((kcN T n : Nat) : Int) := by
      rw [← dv, rem_e, rm]
    have hh := hasPlant_eq (D := D) (c := kcN T n) hT hM (by omega) (by omega)
    have k00 : (n == 0) = false := beq_eq_false_iff_ne.mpr k0
    have tf : takenN T (kcN T n) = false := by
      unfold caN at ca
      rw [k00, Bool.false_or] at ca
      simpa using ca
    rw [tf] at hh
    have hh' : f_X12_hasPlant (cI 0) (cI (T 0 4)) (cI (kcN T n : Nat)) D = some (cI 0, D) := hh
    obtain ⟨D3, eg, z1, z2, z3⟩ := growAs_ok (s := ((ksN T n : Nat) : Int)) (c := ((kcN T n : Nat) : Int)) (g := -1) hT hM (by omega)
    have hTp := pl_ok (s := ((ksN T n : Nat) : Int)) (c := ((kcN T n : Nat) : Int)) (g := -1) hT (by omega) (by omega) v.1 (by omega) v.2.1 (by omega) (by omega)
    refine ⟨_, D3, ?_, hTp, pl_scn, z1, fun c h j hj => ?_, z2, z3⟩
    · unfold f_X12_isCase
      simp (disch := omega) only [e_bi, e_bind, e_let, e_tr, e_tl, cLm1, cLm2, cL0, cL1, cL2, cL3, cL4, cL5, cL6, cL7, cL8, cL9, cL10, cL11, cL12, cL13, cL14, cL15, cL16, cL17, cL18, cL19, cL20, cL21, cL22, cL23, cL24, cL25, cL29, cL30, cL31, cL32, cL36, cL48, cL50, cL51, cL52, cL64, cL99, cL100, cL700, cL1000, cL9999, cL10000, cI_add, cI_sub, cI_mul, cI_neg, cI_lt, cI_le, cI_eq, ne_eq, ifp, ifn, bI_p, bI_n, aZ_0, aZ_1, aZ_b, e_gdt, e_ifT, e_ifF, not_true_eq_false, not_false_eq_true, e_gd, cX0, cX1, cX2, cX3, cX4, cX5, cX6, cX7, cX8, cX9, cX10, cX11, cX12, cX13, cX14, cX15, cX16, cX17, cX18, cX19, cX20, cX21, cX22, cX23, cX24, cX25, cX29, cX30, cX31, cX32, cX36, Int.reduceToNat, cI_inT, cI_nat, ew, m0, m1, mw, m30, aNz_c, cI_div, dv, rm', hh', eg]
    · rw [raw_pl (by omega)]
      unfold rkN
      by_cases y : ksN T n = j
      · rw [if_pos (by omega), if_pos ⟨k0, y⟩]
      · rw [if_neg (by omega), if_neg (fun q => y q.2)]
end ALK
