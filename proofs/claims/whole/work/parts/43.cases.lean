/-! cases, the class's side -/
section CAS
theorem masked_r {D : aD} {T : aT} {R O : Nat → Int} {s : Nat} (hp : TOKp T) (hC : CP D 2 T) (hN : ∀ j : Nat, j < 6 → gI D 58 j = cI (R j)) (hB : bB R O) (hs : s < 6) : f_X0_masked (cI (s : Int)) D = some (cI (mkN T R s), D) := by
  have hq := hp.1
  have hT := hp.2.2.2.2.2
  obtain ⟨-, -, q3, -, -, -, -, -, -, q9⟩ := CP.two hC
  have r := hB.1 s hs
  have e : ((s : Int)).toNat = s := by omega
  have n1 := hN s hs
  unfold f_X0_masked
  rcases hC.2.2.2.2.2.2.2.2.1 s hs with ⟨k1, k2⟩ | k1
  · have k1' : gI D 13 s = cI 0 := k1
    simp (disch := omega) only [e_bi, e_bind, e_let, e_tr, e_tl, cLm1, cLm2, cL0, cL1, cL2, cL3, cL4, cL5, cL6, cL7, cL8, cL9, cL10, cL11, cL12, cL13, cL14, cL15, cL16, cL17, cL18, cL19, cL20, cL21, cL22, cL23, cL24, cL25, cL29, cL30, cL31, cL32, cL36, cL48, cL50, cL51, cL52, cL64, cL99, cL100, cL700, cL1000, cL9999, cL10000, cI_add, cI_sub, cI_mul, cI_neg, cI_lt, cI_le, cI_eq, ne_eq, ifp, ifn, bI_p, bI_n, aZ_0, aZ_1, aZ_b, e_gdt, e_ifT, e_ifF, not_true_eq_false, not_false_eq_true, e_gd, cI_inT, cI_nat, e, n1, k1']
    have e0 : sgN (T 0 2).toNat (maN T R s) = 0 := sg_0 _ (fun m hm => by unfold maN; rw [k2 m (by omega)]; simp)
    unfold mkN mxI
    rw [e0]
    by_cases c : 0 < R s - 0
    · rw [if_pos c, Int.sub_zero]
    · rw [if_neg c, show R s = 0 by omega]
  · have k1' : gI D 13 s = cI 1 := k1
    have L : aLp (fun t : Int32 × Int32 × aD => B_X0_masked_23 (cI (s : Int)) t.1 t.2.1 t.2.2) (cI (R s), cI 0, D) = some (cI (R s - sgN (T 0 2).toNat (maN T R s)), D) := by
      have h := lp_cnt (body := fun t : Int32 × Int32 × aD => B_X0_masked_23 (cI (s : Int)) t.1 t.2.1 t.2.2) (T 0 2).toNat (by omega) (fun i => (cI (R s - sgN i (maN T R s)), cI (i : Int), D)) (cI (R s - sgN (T 0 2).toNat (maN T R s)), D) ?_ ?_
      · have e1 : R s - sgN 0 (maN T R s) = R s := by simp [sgN]
        have h' := h
        simp only [e1] at h'
        exact h'
      · intro i hi
        have m1 := ma_b (s := s) (m := i) hT hB hs (by omega)
        have n2 := hN i (by omega)
        have q9' := q9 (i * 6 + s) (by omega)
        have e2 : ((i : Int) * 6 + (s : Int)).toNat = i * 6 + s := by omega
        have e3 : ((i : Int)).toNat = i := by omega
        show B_X0_masked_23 (cI (s : Int)) (cI (R s - sgN i (maN T R s))) (cI (i : Int)) D = _
        unfold B_X0_masked_23
        simp (disch := omega) only [e_bi, e_bind, e_let, e_tr, e_tl, cLm1, cLm2, cL0, cL1, cL2, cL3, cL4, cL5, cL6, cL7, cL8, cL9, cL10, cL11, cL12, cL13, cL14, cL15, cL16, cL17, cL18, cL19, cL20, cL21, cL22, cL23, cL24, cL25, cL29, cL30, cL31, cL32, cL36, cL48, cL50, cL51, cL52, cL64, cL99, cL100, cL700, cL1000, cL9999, cL10000, cI_add, cI_sub, cI_mul, cI_neg, cI_lt, cI_le, cI_eq, ne_eq, ifp, ifn, bI_p, bI_n, aZ_0, aZ_1, aZ_b, e_gdt, e_ifT, e_ifF, not_true_eq_false, not_false_eq_true, e_gd, q3, cI_inT, cI_nat, e2, e3, n2, q9', cI_div]
        rw [sgN]
        unfold maN
        rw [← Int.sub_sub]
        rfl
      · show B_X0_masked_23 (cI (s : Int)) (cI (R s - sgN (T 0 2).toNat (maN T R s))) (cI (((T 0 2).toNat : Nat) : Int)) D = _
        unfold B_X0_masked_23
        simp (disch := omega) only [e_bi, e_bind, e_let, e_tr, e_tl, cLm1, cLm2, cL0, cL1, cL2, cL3, cL4, cL5, cL6, cL7, cL8, cL9, cL10, cL11, cL12, cL13, cL14, cL15, cL16, cL17, cL18, cL19, cL20, cL21, cL22, cL23, cL24, cL25, cL29, cL30, cL31, cL32, cL36, cL48, cL50, cL51, cL52, cL64, cL99, cL100, cL700, cL1000, cL9999, cL10000, cI_add, cI_sub, cI_mul, cI_neg, cI_lt, cI_le, cI_eq, ne_eq, ifp, ifn, bI_p, bI_n, aZ_0, aZ_1, aZ_b, e_gdt, e_ifT, e_ifF, not_true_eq_false, not_false_eq_true, e_gd, q3]
    have b := sg_b (f := maN T R s) (B := 4680) (T 0 2).toNat (fun m hm => ⟨(ma_b hT hB hs (by omega)).2.2.1, (ma_b hT hB hs (by omega)).2.2.2⟩)
    simp (disch := omega) only [e_gd, e_gdt, e_let, cI_inT, cI_nat, e, n1, k1', ne_eq]
    rw [ifp (show ¬ (cI 1 = 0) by decide)]
    unfold J_X0_masked_23
    have L' := L
    rw [show (cI 0 : Int32) = 0 from rfl] at L'
    rw [L', e_bind]
    unfold J_X0_masked_67 mkN mxI
    by_cases c : 0 ≤ R s - sgN (T 0 2).toNat (maN T R s)
    · by_cases c2 : 0 < R s - sgN (T 0 2).toNat (maN T R s)
      · simp (disch := omega) only [e_bi, e_bind, e_let, e_tr, e_tl, cLm1, cLm2, cL0, cL1, cL2, cL3, cL4, cL5, cL6, cL7, cL8, cL9, cL10, cL11, cL12, cL13, cL14, cL15, cL16, cL17, cL18, cL19, cL20, cL21, cL22, cL23, cL24, cL25, cL29, cL30, cL31, cL32, cL36, cL48, cL50, cL51, cL52, cL64, cL99, cL100, cL700, cL1000, cL9999, cL10000, cI_add, cI_sub, cI_mul, cI_neg, cI_lt, cI_le, cI_eq, ne_eq, ifp, ifn, bI_p, bI_n, aZ_0, aZ_1, aZ_b, e_gdt, e_ifT, e_ifF, not_true_eq_false, not_false_eq_true, e_gd]
      · simp (disch := omega) only [e_bi, e_bind, e_let, e_tr, e_tl, cLm1, cLm2, cL0, cL1, cL2, cL3, cL4, cL5, cL6, cL7, cL8, cL9, cL10, cL11, cL12, cL13, cL14, cL15, cL16, cL17, cL18, cL19, cL20, cL21, cL22, cL23, cL24, cL25, cL29, cL30, cL31, cL32, cL36, cL48, cL50, cL51, cL52, cL64, cL99, cL100, cL700, cL1000, cL9999, cL10000, cI_add, cI_sub, cI_mul, cI_neg, cI_lt, cI_le, cI_eq, ne_eq, ifp, ifn, bI_p, bI_n, aZ_0, aZ_1, aZ_b, e_gdt, e_ifT, e_ifF, not_true_eq_false, not_false_eq_true, e_gd]
        rw [show R s - sgN (T 0 2).toNat (maN T R s) = 0 by omega]
    · simp (disch := omega) only [e_bi, e_bind, e_let, e_tr, e_tl, cLm1, cLm2, cL0, cL1, cL2, cL3, cL4, cL5, cL6, cL7, cL8, cL9, cL10, cL11, cL12, cL13, cL14, cL15, cL16, cL17, cL18, cL19, cL20, cL21, cL22, cL23, cL24, cL25, cL29, cL30, cL31, cL32, cL36, cL48, cL50, cL51, cL52, cL64, cL99, cL100, cL700, cL1000, cL9999, cL10000, cI_add, cI_sub, cI_mul, cI_neg, cI_lt, cI_le, cI_eq, ne_eq, ifp, ifn, bI_p, bI_n, aZ_0, aZ_1, aZ_b, e_gdt, e_ifT, e_ifF, not_true_eq_false, not_false_eq_true, e_gd]
def ngN (T : aT) (i : Nat) : Int := T 11 (T 16 i).toNat
def ksN (T : aT) (k : Nat) : Nat := (k - 1) / clN T
def kcN (T : aT) (k : Nat) : Nat := (k - 1) % clN T
def rkN (T : aT) (w k : Nat) (c h : Int) (j : Nat) : Int := rawN T c h w j + if k ≠ 0 ∧ ksN T k = j then scN T (ksN T k) 1 (kcN T k) c (T 15 1) h w else 0
def ftN (T : aT) (w k : Nat) : Bool := (List.range (T 15 2).toNat).all (fun i => ntN T (mkN T (rkN T w k (ngN T i) (T 17 i)) (T 18 i).toNat) == T 19 i)
theorem ft_iff {T : aT} {w k : Nat} : ftN T w k = true ↔ ∀ i : Nat, i < (T 15 2).toNat → ntN T (mkN T (rkN T w k (ngN T i) (T 17 i)) (T 18 i).toNat) = T 19 i := by
  unfold ftN
  simp [List.all_eq_true]
def caN (T : aT) (k : Nat) : Bool := k == 0 || !(takenN T (kcN T k))
def mxK (T : aT) : Nat := 1 + clN T * (T 0 2).toNat
def cfN (T : aT) (w : Nat) : Nat → List (Nat × Nat)
  | 0 => []
  | n + 1 => cfN T w n ++ if caN T n && ftN T w n then [(w, n)] else []
def csN (T : aT) : Nat → List (Nat × Nat)
  | 0 => []
  | w + 1 => csN T w ++ if 0 < T 0 (10 + w) then cfN T w (mxK T) else []
def enC (T : aT) (q : Nat × Nat) : Int := if q.2 = 0 then (q.1 : Int) * 65536 else (q.1 : Int) * 65536 + ((ksN T q.2 : Nat) + 1) * 256 + (kcN T q.2 : Nat)
def FD (D : aD) (T : aT) (l : List (Nat × Nat)) : Prop := gI D 79 4 = cI (l.length : Int) ∧ ∀ (i : Nat) (q : Nat × Nat), l[i]? = some q → gI D 80 i = cI (enC T q)
theorem cf_len {T : aT} {w : Nat} : ∀ n : Nat, (cfN T w n).length ≤ n
  | 0 => by simp [cfN]
  | n + 1 => by
    have := cf_len (T := T) (w := w) n
    rw [cfN, List.length_append]
    split <;> simp <;> omega
theorem cs_len {T : aT} : ∀ w : Nat, (csN T w).length ≤ w * mxK T
  | 0 => by simp [csN]
  | w + 1 => by
    have a := cs_len (T := T) w
    have b := cf_len (T := T) (w := w) (mxK T)
    rw [csN, List.length_append, Nat.add_mul]
    split <;> simp <;> omega
theorem mxK_b {T : aT} (h : 0 ≤ T 0 2 ∧ T 0 2 ≤ 6) (h2 : 4 ≤ T 0 0 * T 0 1 ∧ T 0 0 * T 0 1 ≤ 64) : mxK T ≤ 385 := by
  unfold mxK clN
  have := Nat.mul_le_mul (show (T 0 0 * T 0 1).toNat ≤ 64 by omega) (show (T 0 2).toNat ≤ 6 by omega)
  omega
theorem enc_c {w b c : Int} (h1 : 0 ≤ w) (h2 : w < 5) (h3 : 0 ≤ b) (h4 : b < 7) (h5 : 0 ≤ c) (h6 : c < 64) : (cI w <<< ((16 : Int32) &&& 31)) ||| (cI b <<< ((8 : Int32) &&& 31)) ||| cI c = cI (w * 65536 + b * 256 + c) := by
  obtain ⟨w, rfl⟩ : ∃ n : Nat, w = (n : Int) := ⟨w.toNat, by omega⟩
  obtain ⟨b, rfl⟩ : ∃ n : Nat, b = (n : Int) := ⟨b.toNat, by omega⟩
  obtain ⟨c, rfl⟩ : ∃ n : Nat, c = (n : Int) := ⟨c.toNat, by omega⟩
  have e : (w : Int) * 65536 + b * 256 + c = ((w * 65536 + b * 256 + c : Nat) : Int) := by omega
  rw [e]
  refine bv_of _ ?_
  show (((cI (w : Int)).toBitVec <<< (16 : Nat)) ||| ((cI (b : Int)).toBitVec <<< (8 : Nat)) ||| (cI (c : Int)).toBitVec).toNat = _
  rw [BitVec.toNat_or, BitVec.toNat_or, BitVec.toNat_shiftLeft, BitVec.toNat_shiftLeft, tn_c (by omega), tn_c (by omega), tn_c (by omega), Nat.shiftLeft_eq, Nat.shiftLeft_eq, Nat.mod_eq_of_lt (by omega), Nat.mod_eq_of_lt (by omega)]
  have h1 : w * 2 ^ 16 ||| b * 2 ^ 8 = (w * 256 + b) * 2 ^ 8 := by
    rw [← Nat.shiftLeft_eq w 16, ← Nat.shiftLeft_add_eq_or_of_lt (show b * 2 ^ 8 < 2 ^ 16 by omega), Nat.shiftLeft_eq]
    omega
  rw [h1, ← Nat.shiftLeft_eq, ← Nat.shiftLeft_add_eq_or_of_lt (show c < 2 ^ 8 by omega), Nat.shiftLeft_eq]
  omega
theorem nose_b {T : aT} {i : Nat} (hp : TOKp T) (hn : TOKn T) (hi : (i : Int) < T 15 2) : 0 ≤ ngN T i ∧ ngN T i < T 0 0 * T 0 1 ∧ 0 ≤ T 17 i ∧ T 17 i < 24 ∧ 0 ≤ T 18 i ∧ T 18 i < T 0 2 ∧ 0 ≤ T 16 i ∧ T 16 i < T 0 5 ∧ 0 ≤ T 19 i ∧ T 19 i ≤ 9999 := by
  have h := hn.2.2.2 i hi
  have g := hp.2.2.2.2.1 (T 16 i).toNat (by omega)
  unfold ngN
  omega
theorem kv_b {T : aT} {k : Nat} (hq : 0 ≤ T 0 2 ∧ T 0 2 ≤ 6) (h2 : 4 ≤ T 0 0 * T 0 1 ∧ T 0 0 * T 0 1 ≤ 64) (hk : k < mxK T) (h0 : k ≠ 0) : ((ksN T k : Nat) : Int) < T 0 2 ∧ ((kcN T k : Nat) : Int) < T 0 0 * T 0 1 ∧ k = 1 + clN T * ksN T k + kcN T k := by
  have c0 : 0 < clN T := by unfold clN; omega
  have a := Nat.mod_lt (k - 1) c0
  have b : (k - 1) / clN T < (T 0 2).toNat := Nat.div_lt_of_lt_mul (by unfold mxK at hk; omega)
  have c := Nat.div_add_mod (k - 1) (clN T)
  unfold ksN kcN
  have d : ((clN T : Nat) : Int) = T 0 0 * T 0 1 := by unfold clN; omega
  refine ⟨by omega, by omega, by omega⟩
theorem rk_b {T : aT} {w k : Nat} {c h : Int} (hp : TOKp T) (hk : k < mxK T) (h3 : 0 ≤ c) (h4 : c < T 0 0 * T 0 1) : bB (rkN T w k c h) (fun _ => 0) := by
  have hq := hp.1
  have hP : ((T 0 4).toNat : Int) ≤ 12 := by omega
  refine ⟨fun j hj => ?_, fun g s hg hs => ?_⟩
  · have a := sg_b (f := fun p => if T 8 p = (j : Int) then smN T p c h w else 0) (B := 360) (T 0 4).toNat (fun p hp2 => by
      have := sm_b (hour := h) (w := (w : Int)) hp (show (p : Int) < T 0 4 by omega) h3 h4
      show 0 ≤ (if T 8 p = (j : Int) then smN T p c h w else 0) ∧ (if T 8 p = (j : Int) then smN T p c h w else 0) ≤ 360
      split <;> omega)
    have a' : 0 ≤ rawN T c h w j ∧ rawN T c h w j ≤ (T 0 4).toNat * 360 := a
    unfold rkN
    split
    · rename_i x
      have v := kv_b (T := T) (k := k) (by omega) (by omega) hk x.1
      have s := sc_b (m := 1) (week := T 15 1) (hour := h) (w := (w : Int)) hp (s := ((ksN T k : Nat) : Int)) (by omega) v.1 (Or.inl rfl) (f := ((kcN T k : Nat) : Int)) (by omega) v.2.1 h3 h4
      omega
    · omega
  · have a := sg_b (f := fun p => if T 8 p = (s : Int) then smN T p c h w else 0) (B := 360) (T 0 4).toNat (fun p hp2 => by
      have := sm_b (hour := h) (w := (w : Int)) hp (show (p : Int) < T 0 4 by omega) h3 h4
      show 0 ≤ (if T 8 p = (s : Int) then smN T p c h w else 0) ∧ (if T 8 p = (s : Int) then smN T p c h w else 0) ≤ 360
      split <;> omega)
    have a' : 0 ≤ rawN T c h w s ∧ rawN T c h w s ≤ (T 0 4).toNat * 360 := a
    refine ⟨Int.le_refl 0, ?_⟩
    show 0 ≤ rkN T w k c h s
    unfold rkN
    split
    · rename_i x
      have v := kv_b (T := T) (k := k) (by omega) (by omega) hk x.1
      have s := sc_b (m := 1) (week := T 15 1) (hour := h) (w := (w : Int)) hp (s := ((ksN T k : Nat) : Int)) (by omega) v.1 (Or.inl rfl) (f := ((kcN T k : Nat) : Int)) (by omega) v.2.1 h3 h4
      omega
    · omega
theorem load_eq {D : aD} {i : Nat} (hi : i < 12) : f_X0_loadRaw 81 72 (cI (i : Int)) D = some (aCp D 81 58 (cI ((i : Int) * 6)) (cI 0) (cI 6)) := by
  unfold f_X0_loadRaw
  simp (disch := omega) only [e_bi, e_bind, e_let, e_tr, e_tl, cLm1, cLm2, cL0, cL1, cL2, cL3, cL4, cL5, cL6, cL7, cL8, cL9, cL10, cL11, cL12, cL13, cL14, cL15, cL16, cL17, cL18, cL19, cL20, cL21, cL22, cL23, cL24, cL25, cL29, cL30, cL31, cL32, cL36, cL48, cL50, cL51, cL52, cL64, cL99, cL100, cL700, cL1000, cL9999, cL10000, cI_add, cI_sub, cI_mul, cI_neg, cI_lt, cI_le, cI_eq, ne_eq, ifp, ifn, bI_p, bI_n, aZ_0, aZ_1, aZ_b, e_gdt, e_ifT, e_ifF, not_true_eq_false, not_false_eq_true, e_gd, cg_c]
theorem save_eq {D : aD} {i : Nat} (hi : i < 12) : f_X0_saveRaw 81 72 (cI (i : Int)) D = some (aCp D 58 81 (cI 0) (cI ((i : Int) * 6)) (cI 6)) := by
  unfold f_X0_saveRaw
  simp (disch := omega) only [e_bi, e_bind, e_let, e_tr, e_tl, cLm1, cLm2, cL0, cL1, cL2, cL3, cL4, cL5, cL6, cL7, cL8, cL9, cL10, cL11, cL12, cL13, cL14, cL15, cL16, cL17, cL18, cL19, cL20, cL21, cL22, cL23, cL24, cL25, cL29, cL30, cL31, cL32, cL36, cL48, cL50, cL51, cL52, cL64, cL99, cL100, cL700, cL1000, cL9999, cL10000, cI_add, cI_sub, cI_mul, cI_neg, cI_lt, cI_le, cI_eq, ne_eq, ifp, ifn, bI_p, bI_n, aZ_0, aZ_1, aZ_b, e_gdt, e_ifT, e_ifF, not_true_eq_false, not_false_eq_true, e_gd, cg_c]
def seN (D : aD) (T : aT) (w n : Nat) : Prop := ∀ i j : Nat, i < n → j < 6 → gI D 81 (i * 6 + j) = cI (rawN T (ngN T i) (T 17 i) w j)
theorem tryC_ok {D : aD} {T : aT} {w k : Nat} {l : List (Nat × Nat)} (hp : TOKp T) (hn : TOKn T) (hC : CP D 2 T) (hN : CNow D T) (hw : w < 5) (hk : k < mxK T) (hS : seN D T w (T 15 2).toNat) (hF : FD D T l) (hl : l.length < 1925) :
    Ok (f_X10_tryCase (cI (w : Int)) (cI (if k = 0 then -1 else ((ksN T k : Nat) : Int))) (cI (if k = 0 then 0 else ((kcN T k : Nat) : Int))) D) (fun D' => FD D' T (l ++ if ftN T w k then [(w, k)] else []) ∧ ∀ k' j : Nat, k' ≠ 58 → k' ≠ 80 → ¬ (k' = 79 ∧ j = 4) → gI D' k' j = gI D k' j) := by
  have hq := hp.1
  have hq2 := hn.1
  unfold f_X10_tryCase J_X10_tryCase_3
  refine ok_bindI (ok_lp (fun i t => t.1 = cI (i : Int) ∧ (∀ m : Nat, m < i → ntN T (mkN T (rkN T w k (ngN T m) (T 17 m)) (T 18 m).toNat) = T 19 m) ∧ ∀ k' j : Nat, k' ≠ 58 → gI t.2 k' j = gI D k' j) (T 15 2).toNat (by omega) ⟨rfl, fun m h => absurd h (by omega), fun _ _ _ => rfl⟩ ?_)
  rintro i ⟨x, D1⟩ hi ⟨rfl, g1, g2⟩
  show Ok (B_X10_tryCase_3 (cI (w : Int)) (cI (if k = 0 then -1 else ((ksN T k : Nat) : Int))) (cI (if k = 0 then 0 else ((kcN T k : Nat) : Int))) (cI (i : Int)) D1) _
  obtain ⟨hC1, hN1⟩ := cF hp hC hN (D' := D1) (fun k j hk => g2 k j (by omega))
  obtain ⟨-, -, r16, r17, r18, r19, -, -, rw15, r152⟩ := CNow.two hN1
  obtain ⟨-, -, -, -, -, -, -, -, q11, -⟩ := CP.two hC1
  have e : ((i : Int)).toNat = i := by omega
  unfold B_X10_tryCase_3
  by_cases c : (i : Int) < T 15 2
  · have nb := nose_b hp hn c
    have a16 := r16 i (by omega)
    have a17 := r17 i (by omega)
    have a18 := r18 i (by omega)
    have a19 := r19 i (by omega)
    have a11 : gI D1 11 (T 16 i).toNat = cI (ngN T i) := q11 (T 16 i).toNat (by omega)
    have rb := rk_b (w := w) (k := k) (h := T 17 i) hp hk nb.1 nb.2.1
    have rest : ∀ D2 : aD, (∀ j : Nat, j < 6 → gI D2 58 j = cI (rkN T w k (ngN T i) (T 17 i) j)) → (∀ k' j : Nat, k' ≠ 58 → gI D2 k' j = gI D k' j) → Ok (J_X10_tryCase_95 (cI (w : Int)) (cI (if k = 0 then -1 else ((ksN T k : Nat) : Int))) (cI (if k = 0 then 0 else ((kcN T k : Nat) : Int))) (cI (i : Int)) D2) (fun r => (∃ s', r = .inl s' ∧ i < (T 15 2).toNat ∧ (fun (i : Nat) (t : Int32 × aD) => t.1 = cI (i : Int) ∧ (∀ m : Nat, m < i → ntN T (mkN T (rkN T w k (ngN T m) (T 17 m)) (T 18 m).toNat) = T 19 m) ∧ ∀ k' j : Nat, k' ≠ 58 → gI t.2 k' j = gI D k' j) (i + 1) s') ∨ ∃ q, r = .inr q ∧ Ok (Sum.elim (fun r => J_X10_tryCase_136 r) (fun r => J_X10_tryCase_143 (cI (w : Int)) (cI (if k = 0 then -1 else ((ksN T k : Nat) : Int))) (cI (if k = 0 then 0 else ((kcN T k : Nat) : Int))) r) q) (fun D' => FD D' T (l ++ if ftN T w k then [(w, k)] else []) ∧ ∀ k' j : Nat, k' ≠ 58 → k' ≠ 80 → ¬ (k' = 79 ∧ j = 4) → gI D' k' j = gI D k' j)) := by
      intro D2 b1 b2
      obtain ⟨hC2, hN2⟩ := cF hp hC hN (D' := D2) (fun k j hk => b2 k j (by omega))
      obtain ⟨-, -, -, -, s18, s19, -, -, -, -⟩ := CNow.two hN2
      have c18 := s18 i (by omega)
      have c19 := s19 i (by omega)
      have em := masked_r (s := (T 18 i).toNat) hp hC2 b1 rb (by omega)
      rw [Int.toNat_of_nonneg nb.2.2.2.2.1] at em
      have mk := mk_b (s := (T 18 i).toNat) hp.2.2.2.2.2 (by omega) rb (by omega)
      have r1 := rb.1 (T 18 i).toNat (by omega)
      have nt := nt_b (T := T) mk.1 (show mkN T (rkN T w k (ngN T i) (T 17 i)) (T 18 i).toNat ≤ 4680 by omega)
      unfold J_X10_tryCase_95
      by_cases y : ntN T (mkN T (rkN T w k (ngN T i) (T 17 i)) (T 18 i).toNat) = T 19 i
      · simp (disch := omega) only [e_bi, e_bind, e_let, e_tr, e_tl, cLm1, cLm2, cL0, cL1, cL2, cL3, cL4, cL5, cL6, cL7, cL8, cL9, cL10, cL11, cL12, cL13, cL14, cL15, cL16, cL17, cL18, cL19, cL20, cL21, cL22, cL23, cL24, cL25, cL29, cL30, cL31, cL32, cL36, cL48, cL50, cL51, cL52, cL64, cL99, cL100, cL700, cL1000, cL9999, cL10000, cI_add, cI_sub, cI_mul, cI_neg, cI_lt, cI_le, cI_eq, ne_eq, ifp, ifn, bI_p, bI_n, aZ_0, aZ_1, aZ_b, e_gdt, e_ifT, e_ifF, not_true_eq_false, not_false_eq_true, e_gd, cI_inT, cI_nat, e, c18, c19, em, noticed_eq hp hC2]
        refine ok_someI (Or.inl ⟨_, rfl, by omega, rfl, fun m hm => ?_, b2⟩)
        by_cases z : m = i
        · subst z; exact y
        · exact g1 m (by omega)
      · simp (disch := omega) only [e_bi, e_bind, e_let, e_tr, e_tl, cLm1, cLm2, cL0, cL1, cL2, cL3, cL4, cL5, cL6, cL7, cL8, cL9, cL10, cL11, cL12, cL13, cL14, cL15, cL16, cL17, cL18, cL19, cL20, cL21, cL22, cL23, cL24, cL25, cL29, cL30, cL31, cL32, cL36, cL48, cL50, cL51, cL52, cL64, cL99, cL100, cL700, cL1000, cL9999, cL10000, cI_add, cI_sub, cI_mul, cI_neg, cI_lt, cI_le, cI_eq, ne_eq, ifp, ifn, bI_p, bI_n, aZ_0, aZ_1, aZ_b, e_gdt, e_ifT, e_ifF, not_true_eq_false, not_false_eq_true, e_gd, cI_inT, cI_nat, e, c18, c19, em, noticed_eq hp hC2]
        refine ok_someI (Or.inr ⟨_, rfl, ?_⟩)
        have nf : ftN T w k = false := Bool.eq_false_iff.mpr (fun z => y (ft_iff.mp z i (by omega)))
        rw [nf]
        refine ok_someI ⟨?_, fun k' j a b d => b2 k' j a⟩
        rw [show l ++ (if false = true then [(w, k)] else []) = l by simp]
        exact ⟨(b2 _ _ (by omega)).trans hF.1, fun i q h => (b2 _ _ (by omega)).trans (hF.2 i q h)⟩
    have se : ∀ j : Nat, j < 6 → gI D1 81 (i * 6 + j) = cI (rawN T (ngN T i) (T 17 i) w j) := fun j hj => (g2 _ _ (by omega)).trans (hS i j (by omega) hj)
    have ld : ∀ j : Nat, j < 6 → gI (aCp D1 81 58 (cI ((i : Int) * 6)) (cI 0) (cI 6)) 58 j = cI (rawN T (ngN T i) (T 17 i) w j) := fun j hj => by
      rw [gI_cp (by omega) (by omega) (by omega) (by omega) (by omega) (by omega), if_pos ⟨rfl, by omega, by omega⟩]
      rw [show ((i : Int) * 6).toNat + (j - (0 : Int).toNat) = i * 6 + j by omega]
      exact se j hj
    have ln : ∀ k' j : Nat, k' ≠ 58 → gI (aCp D1 81 58 (cI ((i : Int) * 6)) (cI 0) (cI 6)) k' j = gI D k' j := fun k' j h => (cp_N h).trans (g2 k' j h)
    generalize hDL : aCp D1 81 58 (cI ((i : Int) * 6)) (cI 0) (cI 6) = DL at ld ln
    have lo := load_eq (D := D1) (i := i) (by omega)
    rw [hDL] at lo
    by_cases k0 : k = 0
    · rw [if_pos k0, if_pos k0] at rest ⊢
      simp (disch := omega) only [e_bi, e_bind, e_let, e_tr, e_tl, cLm1, cLm2, cL0, cL1, cL2, cL3, cL4, cL5, cL6, cL7, cL8, cL9, cL10, cL11, cL12, cL13, cL14, cL15, cL16, cL17, cL18, cL19, cL20, cL21, cL22, cL23, cL24, cL25, cL29, cL30, cL31, cL32, cL36, cL48, cL50, cL51, cL52, cL64, cL99, cL100, cL700, cL1000, cL9999, cL10000, cI_add, cI_sub, cI_mul, cI_neg, cI_lt, cI_le, cI_eq, ne_eq, ifp, ifn, bI_p, bI_n, aZ_0, aZ_1, aZ_b, e_gdt, e_ifT, e_ifF, not_true_eq_false, not_false_eq_true, e_gd, r152, cI_inT, cI_nat, e, a16, a11, lo]
      refine rest DL (fun j hj => ?_) ln
      rw [ld j hj]
      unfold rkN
      rw [if_neg (fun z => z.1 k0), Int.add_zero]
    · have v := kv_b (T := T) (k := k) (by omega) (by omega) hk k0
      rw [if_neg k0, if_neg k0] at rest ⊢
      obtain ⟨hCL, hNL⟩ := cF hp hC hN (D' := DL) (fun k j hk => ln k j (by omega))
      obtain ⟨-, -, -, s17, -, -, -, -, sw15, -⟩ := CNow.two hNL
      have t17 := s17 i (by omega)
      have sq := scent_eq (D := DL) (s := ((ksN T k : Nat) : Int)) (m := 1) (f := ((kcN T k : Nat) : Int)) (t := ngN T i) (week := T 15 1) (hour := T 17 i) (w := (w : Int)) hp hCL (by omega) v.1 (Or.inl rfl) (by omega) v.2.1 nb.1 nb.2.1 (by omega) (by omega) nb.2.2.1 (by omega) (by omega) (by omega)
      have es : (((ksN T k : Nat) : Int)).toNat = ksN T k := by omega
      have ls := ld (ksN T k) (by omega)
      simp (disch := omega) only [e_bi, e_bind, e_let, e_tr, e_tl, cLm1, cLm2, cL0, cL1, cL2, cL3, cL4, cL5, cL6, cL7, cL8, cL9, cL10, cL11, cL12, cL13, cL14, cL15, cL16, cL17, cL18, cL19, cL20, cL21, cL22, cL23, cL24, cL25, cL29, cL30, cL31, cL32, cL36, cL48, cL50, cL51, cL52, cL64, cL99, cL100, cL700, cL1000, cL9999, cL10000, cI_add, cI_sub, cI_mul, cI_neg, cI_lt, cI_le, cI_eq, ne_eq, ifp, ifn, bI_p, bI_n, aZ_0, aZ_1, aZ_b, e_gdt, e_ifT, e_ifF, not_true_eq_false, not_false_eq_true, e_gd, r152, cI_inT, cI_nat, e, es, a16, a11, lo, sw15, t17, sq, ls]
      refine rest _ (fun j hj => ?_) (fun k' j h => (gI_fr (by omega)).trans (ln k' j h))
      unfold rkN
      by_cases y : j = ksN T k
      · subst y
        rw [gI_eq, if_pos ⟨k0, rfl⟩]
      · rw [gI_fr (by omega), ld j hj, if_neg (fun z => y z.2.symm), Int.add_zero]
  · simp (disch := omega) only [e_bi, e_bind, e_let, e_tr, e_tl, cLm1, cLm2, cL0, cL1, cL2, cL3, cL4, cL5, cL6, cL7, cL8, cL9, cL10, cL11, cL12, cL13, cL14, cL15, cL16, cL17, cL18, cL19, cL20, cL21, cL22, cL23, cL24, cL25, cL29, cL30, cL31, cL32, cL36, cL48, cL50, cL51, cL52, cL64, cL99, cL100, cL700, cL1000, cL9999, cL10000, cI_add, cI_sub, cI_mul, cI_neg, cI_lt, cI_le, cI_eq, ne_eq, ifp, ifn, bI_p, bI_n, aZ_0, aZ_1, aZ_b, e_gdt, e_ifT, e_ifF, not_true_eq_false, not_false_eq_true, e_gd, r152]
    refine ok_someI (Or.inr ⟨_, rfl, ?_⟩)
    have yf : ftN T w k = true := ft_iff.mpr (fun m hm => g1 m (by omega))
    show Ok (J_X10_tryCase_143 (cI (w : Int)) (cI (if k = 0 then -1 else ((ksN T k : Nat) : Int))) (cI (if k = 0 then 0 else ((kcN T k : Nat) : Int))) D1) _
    have f1 : gI D1 79 4 = cI (l.length : Int) := (g2 _ _ (by omega)).trans hF.1
    have en : (cI (w : Int) <<< ((16 : Int32) &&& 31)) ||| ((cI (if k = 0 then -1 else ((ksN T k : Nat) : Int)) + 1) <<< ((8 : Int32) &&& 31)) ||| cI (if k = 0 then 0 else ((kcN T k : Nat) : Int)) = cI (enC T (w, k)) := by
      rw [cL1, cI_add]
      unfold enC
      by_cases k0 : k = 0
      · rw [if_pos k0, if_pos k0, if_pos (show (w, k).2 = 0 from k0), enc_c (by omega) (by omega) (by omega) (by omega) (by omega) (by omega)]
        show cI ((w : Int) * 65536 + (-1 + 1) * 256 + 0) = _
        rw [show (w : Int) * 65536 + (-1 + 1) * 256 + 0 = (w : Int) * 65536 by omega]
      · have v := kv_b (T := T) (k := k) (by omega) (by omega) hk k0
        rw [if_neg k0, if_neg k0, if_neg (show ¬ (w, k).2 = 0 from k0), enc_c (by omega) (by omega) (by omega) (by omega) (by omega) (by omega)]
    unfold J_X10_tryCase_143
    rw [en, f1]
    have el : ((l.length : Int)).toNat = l.length := by omega
    have f1' : gI (pI D1 80 l.length (cI (enC T (w, k)))) 79 4 = cI (l.length : Int) := (gI_fr (by omega)).trans f1
    rw [if_neg (show ¬ ((1925 : Int32) ≤ cI (l.length : Int)) by rw [cL1925, cI_le (by omega) (by omega) (by omega) (by omega)]; omega)]
    simp (disch := omega) only [e_gd, e_gdt, e_let, cI_inT, cI_nat, el, f1', cL1, cI_add]
    rw [yf]
    refine ok_someI ⟨⟨?_, fun n q hnq => ?_⟩, fun k' j a b d => ?_⟩
    · rw [gI_eq]
      simp
    · rw [gI_fr (by omega)]
      rw [if_pos rfl] at hnq
      by_cases y : n = l.length
      · subst y
        rw [List.getElem?_append_right (by omega), Nat.sub_self] at hnq
        cases hnq
        exact gI_eq
      · rw [gI_fr (by omega)]
        have hlt : n < l.length := by
          have := (List.getElem?_eq_some_iff.mp hnq).1
          simp at this
          omega
        rw [List.getElem?_append_left hlt] at hnq
        exact (g2 _ _ (by omega)).trans (hF.2 n q hnq)
    · rw [gI_fr (by omega), gI_fr (by omega)]
      exact g2 k' j a
end CAS
