/-! town: bytes and tokens -/
section TKN
theorem cL57 : (57 : Int32) = cI 57 := rfl
theorem cL59 : (59 : Int32) = cI 59 := rfl
theorem cL97 : (97 : Int32) = cI 97 := rfl
theorem cL122 : (122 : Int32) = cI 122 := rfl
def rnF (B : Nat → Int) (P : Int → Bool) : Nat → Nat → Nat
  | 0, e => e
  | k + 1, e => if P (B e) = true then rnF B P k (e + 1) else e
def rnE (B : Nat → Int) (N : Nat) (P : Int → Bool) (e : Nat) : Nat := rnF B P (N - e) e
theorem rn_1 {B : Nat → Int} {N e : Nat} {P : Int → Bool} (h : e < N) (hP : P (B e) = true) : rnE B N P e = rnE B N P (e + 1) := by
  unfold rnE
  rw [show N - e = (N - (e + 1)) + 1 by omega, rnF, if_pos hP]
theorem rn_0 {B : Nat → Int} {N e : Nat} {P : Int → Bool} (h : e < N) (hP : P (B e) = false) : rnE B N P e = e := by
  unfold rnE
  rw [show N - e = (N - (e + 1)) + 1 by omega, rnF, hP, if_neg Bool.false_ne_true]
theorem rn_N {B : Nat → Int} {N e : Nat} {P : Int → Bool} (h : N ≤ e) : rnE B N P e = e := by
  unfold rnE
  rw [show N - e = 0 by omega]
  rfl
theorem rnF_b {B : Nat → Int} {P : Int → Bool} : ∀ k e : Nat, (e ≤ rnF B P k e ∧ rnF B P k e ≤ e + k) ∧ (∀ i : Nat, e ≤ i → i < rnF B P k e → P (B i) = true) ∧ (rnF B P k e < e + k → P (B (rnF B P k e)) = false)
  | 0, e => ⟨⟨Nat.le_refl e, Nat.le_refl e⟩, fun i h1 h2 => absurd h2 (by show ¬ (i < e); omega), fun h => absurd h (by show ¬ (e < e + 0); omega)⟩
  | k + 1, e => by
    have a := rnF_b (B := B) (P := P) k (e + 1)
    rw [rnF]
    by_cases c : P (B e) = true
    · rw [if_pos c]
      refine ⟨by omega, fun i h1 h2 => ?_, fun h => a.2.2 (by omega)⟩
      by_cases y : i = e
      · subst y; exact c
      · exact a.2.1 i (by omega) h2
    · rw [if_neg c]
      exact ⟨by omega, fun i h1 h2 => absurd h2 (by omega), fun _ => by simpa using c⟩
theorem rnB {B : Nat → Int} {N e : Nat} {P : Int → Bool} (h : e ≤ N) : (e ≤ rnE B N P e ∧ rnE B N P e ≤ N) ∧ (∀ i : Nat, e ≤ i → i < rnE B N P e → P (B i) = true) ∧ (rnE B N P e < N → P (B (rnE B N P e)) = false) := by
  have a := rnF_b (B := B) (P := P) (N - e) e
  unfold rnE
  exact ⟨by omega, a.2.1, fun z => a.2.2 (by omega)⟩
def bBk (c : Int) : Bool := decide (c = 32 ∨ c = 10)
def kdb (b : Int) : Int := if 97 ≤ b ∧ b ≤ 122 then 1 else if 48 ≤ b ∧ b ≤ 57 then 2 else if b = 59 then 3 else if b = 45 then 4 else 5
def kq (k b : Int) : Bool := decide (kdb b = k)
def kd (B : Nat → Int) (N p : Nat) : Int := if N ≤ p then 0 else kdb (B p)
def en (B : Nat → Int) (N p : Nat) : Nat := if N ≤ p then p else if kdb (B p) = 1 ∨ kdb (B p) = 2 then rnE B N (kq (kdb (B p))) (p + 1) else p + 1
theorem kdb_r (b : Int) : 1 ≤ kdb b ∧ kdb b ≤ 5 := by
  unfold kdb
  repeat' split
  all_goals omega
theorem kd_r (B : Nat → Int) (N p : Nat) : 0 ≤ kd B N p ∧ kd B N p ≤ 5 := by
  have := kdb_r (B p)
  unfold kd
  split <;> omega
theorem en_b {B : Nat → Int} {N p : Nat} (h : p ≤ N) : p ≤ en B N p ∧ en B N p ≤ N ∧ (p < N → p < en B N p) := by
  unfold en
  split
  · omega
  · split
    · have := (rnB (B := B) (P := kq (kdb (B p))) (show p + 1 ≤ N by omega)).1
      omega
    · omega
theorem en_k {B : Nat → Int} {N p : Nat} {k : Int} (hk : k = 1 ∨ k = 2) (h : kd B N p = k) : p < N ∧ ∀ i : Nat, p ≤ i → i < en B N p → kdb (B i) = k := by
  unfold kd at h
  by_cases c : N ≤ p
  · rw [if_pos c] at h
    omega
  · rw [if_neg c] at h
    refine ⟨by omega, fun i h1 h2 => ?_⟩
    unfold en at h2
    rw [if_neg c, if_pos (by omega)] at h2
    by_cases y : i = p
    · subst y; exact h
    · have q := (rnB (B := B) (P := kq (kdb (B p))) (show p + 1 ≤ N by omega)).2.1 i (by omega) h2
      unfold kq at q
      have q' : kdb (B i) = kdb (B p) := of_decide_eq_true q
      rw [q', h]
def BT (D : aD) (B : Nat → Int) (N : Nat) : Prop := N ≤ 700 ∧ ∀ j : Nat, j < N → 0 ≤ B j ∧ B j < 256 ∧ gI D 1 j = cI (bSg (B j))
theorem BT.fr {D D' : aD} {B : Nat → Int} {N : Nat} (h : BT D B N) (e : ∀ j : Nat, gI D' 1 j = gI D 1 j) : BT D' B N := ⟨h.1, fun j a => ⟨(h.2 j a).1, (h.2 j a).2.1, (e j).trans (h.2 j a).2.2⟩⟩
theorem bs_f {b : Int} (h1 : 0 ≤ b) (h2 : b < 256) : -128 ≤ bSg b ∧ bSg b < 128 ∧ (0 ≤ bSg b → bSg b = b) ∧ (bSg b < 0 → 128 ≤ b) := by
  unfold bSg
  split <;> omega
theorem kindOf_z {D : aD} {b z : Int} (f1 : -128 ≤ z) (f2 : z < 128) (f3 : 0 ≤ z → z = b) (f4 : z < 0 → 128 ≤ b) : f_X7_kindOf (cI z) D = some (cI (kdb b), D) := by
  unfold f_X7_kindOf J_X7_kindOf_14 J_X7_kindOf_28 kdb
  by_cases c1 : z < 97 <;> by_cases c2 : 122 < z <;> by_cases c3 : z < 48 <;> by_cases c4 : 57 < z <;> by_cases c5 : z = 59 <;> by_cases c6 : z = 45 <;> first
    | (exfalso; omega)
    | (simp (disch := omega) only [e_bi, e_bind, e_let, e_tr, e_tl, cLm1, cLm2, cL0, cL1, cL2, cL3, cL4, cL5, cL6, cL7, cL8, cL9, cL10, cL11, cL12, cL13, cL14, cL15, cL16, cL17, cL18, cL19, cL20, cL21, cL22, cL23, cL24, cL25, cL29, cL30, cL31, cL32, cL36, cL48, cL50, cL51, cL52, cL64, cL99, cL100, cL700, cL1000, cL9999, cL10000, cI_add, cI_sub, cI_mul, cI_neg, cI_lt, cI_le, cI_eq, ne_eq, ifp, ifn, bI_p, bI_n, aZ_0, aZ_1, aZ_b, e_gdt, e_ifT, e_ifF, not_true_eq_false, not_false_eq_true, e_gd, cL57, cL59, cL97, cL122, cL45])
theorem kindOf_eq {D : aD} {b : Int} (h1 : 0 ≤ b) (h2 : b < 256) : f_X7_kindOf (cI (bSg b)) D = some (cI (kdb b), D) :=
  have f := bs_f h1 h2
  kindOf_z f.1 f.2.1 f.2.2.1 f.2.2.2
theorem skp_ok {D : aD} {B : Nat → Int} {N e : Nat} (h2 : gI D 56 2 = cI (N : Int)) (h5 : gI D 56 5 = cI (e : Int)) (he : e ≤ N) (hB : BT D B N) : Ok (aLp (fun s => B_X7_take_0 s) D) (fun D' => gI D' 56 5 = cI (rnE B N bBk e : Nat) ∧ ∀ k j : Nat, ¬ (k = 56 ∧ j = 5) → gI D' k j = gI D k j) := by
  have hN := hB.1
  refine ok_lp (fun i D1 => gI D1 56 5 = cI ((e + i : Nat) : Int) ∧ rnE B N bBk (e + i) = rnE B N bBk e ∧ ∀ k j : Nat, ¬ (k = 56 ∧ j = 5) → gI D1 k j = gI D k j) (N - e) (by omega) ⟨h5, rfl, fun _ _ _ => rfl⟩ ?_
  rintro i D1 hi ⟨g1, g2, g3⟩
  show Ok (B_X7_take_0 D1) _
  have c2 : gI D1 56 2 = cI (N : Int) := (g3 _ _ (by omega)).trans h2
  unfold B_X7_take_0
  have e1 : (((e + i : Nat) : Int)).toNat = e + i := by omega
  by_cases c : e + i < N
  · have b := hB.2 (e + i) c
    have f := bs_f b.1 b.2.1
    have cb : gI D1 1 (e + i) = cI (bSg (B (e + i))) := (g3 _ _ (by omega)).trans b.2.2
    have nx : ∀ z : aD, z = pI D1 56 5 (cI (((e + i : Nat) : Int) + 1)) → bBk (B (e + i)) = true → (i < N - e) ∧ gI z 56 5 = cI ((e + (i + 1) : Nat) : Int) ∧ rnE B N bBk (e + (i + 1)) = rnE B N bBk e ∧ ∀ k j : Nat, ¬ (k = 56 ∧ j = 5) → gI z k j = gI D k j := by
      rintro z rfl w
      refine ⟨by omega, ?_, (rn_1 c w).symm.trans g2, fun k j a => (gI_fr a).trans (g3 k j a)⟩
      rw [gI_eq]
      rfl
    by_cases z : B (e + i) = 32
    · simp (disch := omega) only [e_bi, e_bind, e_let, e_tr, e_tl, cLm1, cLm2, cL0, cL1, cL2, cL3, cL4, cL5, cL6, cL7, cL8, cL9, cL10, cL11, cL12, cL13, cL14, cL15, cL16, cL17, cL18, cL19, cL20, cL21, cL22, cL23, cL24, cL25, cL29, cL30, cL31, cL32, cL36, cL48, cL50, cL51, cL52, cL64, cL99, cL100, cL700, cL1000, cL9999, cL10000, cI_add, cI_sub, cI_mul, cI_neg, cI_lt, cI_le, cI_eq, ne_eq, ifp, ifn, bI_p, bI_n, aZ_0, aZ_1, aZ_b, e_gdt, e_ifT, e_ifF, not_true_eq_false, not_false_eq_true, e_gd, cI_inT, cI_nat, c2, g1, e1, cb]
      exact ok_someI (Or.inl ⟨_, rfl, nx _ rfl (by unfold bBk; simp [z])⟩)
    · by_cases y : B (e + i) = 10
      · simp (disch := omega) only [e_bi, e_bind, e_let, e_tr, e_tl, cLm1, cLm2, cL0, cL1, cL2, cL3, cL4, cL5, cL6, cL7, cL8, cL9, cL10, cL11, cL12, cL13, cL14, cL15, cL16, cL17, cL18, cL19, cL20, cL21, cL22, cL23, cL24, cL25, cL29, cL30, cL31, cL32, cL36, cL48, cL50, cL51, cL52, cL64, cL99, cL100, cL700, cL1000, cL9999, cL10000, cI_add, cI_sub, cI_mul, cI_neg, cI_lt, cI_le, cI_eq, ne_eq, ifp, ifn, bI_p, bI_n, aZ_0, aZ_1, aZ_b, e_gdt, e_ifT, e_ifF, not_true_eq_false, not_false_eq_true, e_gd, cI_inT, cI_nat, c2, g1, e1, cb]
        exact ok_someI (Or.inl ⟨_, rfl, nx _ rfl (by unfold bBk; simp [y])⟩)
      · simp (disch := omega) only [e_bi, e_bind, e_let, e_tr, e_tl, cLm1, cLm2, cL0, cL1, cL2, cL3, cL4, cL5, cL6, cL7, cL8, cL9, cL10, cL11, cL12, cL13, cL14, cL15, cL16, cL17, cL18, cL19, cL20, cL21, cL22, cL23, cL24, cL25, cL29, cL30, cL31, cL32, cL36, cL48, cL50, cL51, cL52, cL64, cL99, cL100, cL700, cL1000, cL9999, cL10000, cI_add, cI_sub, cI_mul, cI_neg, cI_lt, cI_le, cI_eq, ne_eq, ifp, ifn, bI_p, bI_n, aZ_0, aZ_1, aZ_b, e_gdt, e_ifT, e_ifF, not_true_eq_false, not_false_eq_true, e_gd, cI_inT, cI_nat, c2, g1, e1, cb]
        refine ok_someI (Or.inr ⟨_, rfl, ?_, g3⟩)
        rw [← g2, rn_0 c (by unfold bBk; simp [y, z])]
        exact g1
  · simp (disch := omega) only [e_bi, e_bind, e_let, e_tr, e_tl, cLm1, cLm2, cL0, cL1, cL2, cL3, cL4, cL5, cL6, cL7, cL8, cL9, cL10, cL11, cL12, cL13, cL14, cL15, cL16, cL17, cL18, cL19, cL20, cL21, cL22, cL23, cL24, cL25, cL29, cL30, cL31, cL32, cL36, cL48, cL50, cL51, cL52, cL64, cL99, cL100, cL700, cL1000, cL9999, cL10000, cI_add, cI_sub, cI_mul, cI_neg, cI_lt, cI_le, cI_eq, ne_eq, ifp, ifn, bI_p, bI_n, aZ_0, aZ_1, aZ_b, e_gdt, e_ifT, e_ifF, not_true_eq_false, not_false_eq_true, e_gd, c2, g1]
    refine ok_someI (Or.inr ⟨_, rfl, ?_, g3⟩)
    rw [← g2, rn_N (by omega)]
    exact g1
theorem run_ok {D : aD} {B : Nat → Int} {N e : Nat} {k : Int} (h2 : gI D 56 2 = cI (N : Int)) (h3 : gI D 56 3 = cI k) (hk : 0 ≤ k ∧ k ≤ 5) (h5 : gI D 56 5 = cI (e : Int)) (he : e ≤ N) (hB : BT D B N) : Ok (aLp (fun s => B_X7_take_119 s) D) (fun D' => gI D' 56 5 = cI (rnE B N (kq k) e : Nat) ∧ ∀ k j : Nat, ¬ (k = 56 ∧ j = 5) → gI D' k j = gI D k j) := by
  have hN := hB.1
  refine ok_lp (fun i D1 => gI D1 56 5 = cI ((e + i : Nat) : Int) ∧ rnE B N (kq k) (e + i) = rnE B N (kq k) e ∧ ∀ k j : Nat, ¬ (k = 56 ∧ j = 5) → gI D1 k j = gI D k j) (N - e) (by omega) ⟨h5, rfl, fun _ _ _ => rfl⟩ ?_
  rintro i D1 hi ⟨g1, g2, g3⟩
  show Ok (B_X7_take_119 D1) _
  have c2 : gI D1 56 2 = cI (N : Int) := (g3 _ _ (by omega)).trans h2
  have c3 : gI D1 56 3 = cI k := (g3 _ _ (by omega)).trans h3
  unfold B_X7_take_119
  have e1 : (((e + i : Nat) : Int)).toNat = e + i := by omega
  by_cases c : e + i < N
  · have b := hB.2 (e + i) c
    have r := kdb_r (B (e + i))
    have cb : gI D1 1 (e + i) = cI (bSg (B (e + i))) := (g3 _ _ (by omega)).trans b.2.2
    by_cases z : kdb (B (e + i)) = k
    · simp (disch := omega) only [e_bi, e_bind, e_let, e_tr, e_tl, cLm1, cLm2, cL0, cL1, cL2, cL3, cL4, cL5, cL6, cL7, cL8, cL9, cL10, cL11, cL12, cL13, cL14, cL15, cL16, cL17, cL18, cL19, cL20, cL21, cL22, cL23, cL24, cL25, cL29, cL30, cL31, cL32, cL36, cL48, cL50, cL51, cL52, cL64, cL99, cL100, cL700, cL1000, cL9999, cL10000, cI_add, cI_sub, cI_mul, cI_neg, cI_lt, cI_le, cI_eq, ne_eq, ifp, ifn, bI_p, bI_n, aZ_0, aZ_1, aZ_b, e_gdt, e_ifT, e_ifF, not_true_eq_false, not_false_eq_true, e_gd, cI_inT, cI_nat, c2, c3, g1, e1, cb, kindOf_eq b.1 b.2.1]
      refine ok_someI (Or.inl ⟨_, rfl, by omega, ?_, (rn_1 c (by unfold kq; simp [z])).symm.trans g2, fun k j a => (gI_fr a).trans (g3 k j a)⟩)
      rw [gI_eq]
      rfl
    · simp (disch := omega) only [e_bi, e_bind, e_let, e_tr, e_tl, cLm1, cLm2, cL0, cL1, cL2, cL3, cL4, cL5, cL6, cL7, cL8, cL9, cL10, cL11, cL12, cL13, cL14, cL15, cL16, cL17, cL18, cL19, cL20, cL21, cL22, cL23, cL24, cL25, cL29, cL30, cL31, cL32, cL36, cL48, cL50, cL51, cL52, cL64, cL99, cL100, cL700, cL1000, cL9999, cL10000, cI_add, cI_sub, cI_mul, cI_neg, cI_lt, cI_le, cI_eq, ne_eq, ifp, ifn, bI_p, bI_n, aZ_0, aZ_1, aZ_b, e_gdt, e_ifT, e_ifF, not_true_eq_false, not_false_eq_true, e_gd, cI_inT, cI_nat, c2, c3, g1, e1, cb, kindOf_eq b.1 b.2.1]
      refine ok_someI (Or.inr ⟨_, rfl, ?_, g3⟩)
      rw [← g2, rn_0 c (by unfold kq; simp [z])]
      exact g1
  · simp (disch := omega) only [e_bi, e_bind, e_let, e_tr, e_tl, cLm1, cLm2, cL0, cL1, cL2, cL3, cL4, cL5, cL6, cL7, cL8, cL9, cL10, cL11, cL12, cL13, cL14, cL15, cL16, cL17, cL18, cL19, cL20, cL21, cL22, cL23, cL24, cL25, cL29, cL30, cL31, cL32, cL36, cL48, cL50, cL51, cL52, cL64, cL99, cL100, cL700, cL1000, cL9999, cL10000, cI_add, cI_sub, cI_mul, cI_neg, cI_lt, cI_le, cI_eq, ne_eq, ifp, ifn, bI_p, bI_n, aZ_0, aZ_1, aZ_b, e_gdt, e_ifT, e_ifF, not_true_eq_false, not_false_eq_true, e_gd, c2, g1]
    refine ok_someI (Or.inr ⟨_, rfl, ?_, g3⟩)
    rw [← g2, rn_N (by omega)]
    exact g1
def tkD (D D' : aD) (B : Nat → Int) (N e : Nat) : Prop := gI D' 56 3 = cI (kd B N (rnE B N bBk e)) ∧ gI D' 56 4 = cI (rnE B N bBk e : Nat) ∧ gI D' 56 5 = cI (en B N (rnE B N bBk e) : Nat) ∧ ∀ k j : Nat, ¬ (k = 56 ∧ 3 ≤ j ∧ j ≤ 5) → gI D' k j = gI D k j
theorem take52_ok {D D0 : aD} {B : Nat → Int} {N e : Nat} (h2 : gI D 56 2 = cI (N : Int)) (he : e ≤ N) (hB : BT D B N) (h5 : gI D 56 5 = cI (rnE B N bBk e : Nat)) (h0 : ∀ k j : Nat, ¬ (k = 56 ∧ 3 ≤ j ∧ j ≤ 5) → gI D k j = gI D0 k j) : Ok (J_X7_take_52 D) (fun D' => tkD D0 D' B N e) := by
  have hN := hB.1
  have rb := (rnB (B := B) (P := bBk) he).1
  unfold J_X7_take_52 tkD
  generalize rnE B N bBk e = s at h5 rb ⊢
  have e1 : ((s : Int)).toNat = s := by omega
  by_cases c : s < N
  · have b := hB.2 s c
    have r := kdb_r (B s)
    have ek : kd B N s = kdb (B s) := if_neg (by omega)
    have ee : en B N s = if kdb (B s) = 1 ∨ kdb (B s) = 2 then rnE B N (kq (kdb (B s))) (s + 1) else s + 1 := if_neg (by omega)
    rw [e_let, gI_fr (by omega), gI_fr (by omega), h5, h2, if_pos (show cI (s : Int) < cI (N : Int) by rw [cI_lt (by omega) (by omega) (by omega) (by omega)]; omega), e_gd (cI_inT (by omega) (by omega) (by omega)), cI_nat (by omega) (by omega), e1, gI_fr (by omega), b.2.2, kindOf_eq b.1 b.2.1, e_bi, e_let, e_let]
    rw [gI_fr (show ¬ ((56 : Nat) = 56 ∧ (3 : Nat) = 5) by omega), gI_eq]
    have q3 : ∀ z : Int32, gI (pI (pI (pI D 56 4 (cI (s : Int))) 56 3 (cI (kdb (B s)))) 56 5 z) 56 3 = cI (kdb (B s)) := fun z => (gI_fr (by omega)).trans gI_eq
    have q5 : gI (pI (pI D 56 4 (cI (s : Int))) 56 3 (cI (kdb (B s)))) 56 5 + 1 = cI ((s + 1 : Nat) : Int) := by
      rw [gI_fr (by omega), gI_fr (by omega), h5, cL1, cI_add]
      rfl
    rw [q5]
    have fr : ∀ k j : Nat, ¬ (k = 56 ∧ 3 ≤ j ∧ j ≤ 5) → gI (pI (pI (pI D 56 4 (cI (s : Int))) 56 3 (cI (kdb (B s)))) 56 5 (cI ((s + 1 : Nat) : Int))) k j = gI D0 k j := fun k j a => by
      rw [gI_fr (by omega), gI_fr (by omega), gI_fr (by omega)]
      exact h0 k j a
    have run := run_ok (D := pI (pI (pI D 56 4 (cI (s : Int))) 56 3 (cI (kdb (B s)))) 56 5 (cI ((s + 1 : Nat) : Int))) (B := B) (N := N) (e := s + 1) (k := kdb (B s)) (by rw [gI_fr (by omega), gI_fr (by omega), gI_fr (by omega)]; exact h2) (q3 _) (by omega) gI_eq (by omega) (hB.fr (fun j => by rw [gI_fr (by omega), gI_fr (by omega), gI_fr (by omega)]))
    have fin : (kdb (B s) = 1 ∨ kdb (B s) = 2) → Ok (J_X7_take_119 (pI (pI (pI D 56 4 (cI (s : Int))) 56 3 (cI (kdb (B s)))) 56 5 (cI ((s + 1 : Nat) : Int)))) (fun D' => gI D' 56 3 = cI (kd B N s) ∧ gI D' 56 4 = cI (s : Int) ∧ gI D' 56 5 = cI (en B N s : Nat) ∧ ∀ k j : Nat, ¬ (k = 56 ∧ 3 ≤ j ∧ j ≤ 5) → gI D' k j = gI D0 k j) := fun y => by
      unfold J_X7_take_119 J_X7_take_162
      refine ok_bindI (run.mono fun D' q => ok_someI ⟨?_, ?_, ?_, fun k j a => (q.2 k j (by omega)).trans (fr k j a)⟩)
      · rw [q.2 56 3 (by omega), ek]
        exact q3 _
      · rw [q.2 56 4 (by omega), gI_fr (by omega), gI_fr (by omega)]
        exact gI_eq
      · rw [ee, if_pos y]
        exact q.1
    by_cases y1 : kdb (B s) = 1
    · rw [if_pos (show cI (kdb (B s)) = 1 by rw [y1]; rfl)]
      exact fin (Or.inl y1)
    · rw [if_neg (show ¬ (cI (kdb (B s)) = 1) by rw [cL1, cI_eq (by omega) (by omega) (by omega) (by omega)]; exact y1)]
      by_cases y2 : kdb (B s) = 2
      · rw [if_neg (show ¬ (cI (kdb (B s)) ≠ 2) by rw [y2]; exact fun z => z rfl)]
        exact fin (Or.inr y2)
      · rw [if_pos (show cI (kdb (B s)) ≠ 2 by rw [cL2, cI_ne (by omega) (by omega) (by omega) (by omega)]; exact y2)]
        refine ok_someI ⟨by rw [ek]; exact q3 _, ?_, ?_, fr⟩
        · rw [gI_fr (by omega), gI_fr (by omega)]
          exact gI_eq
        · rw [ee, if_neg (by omega)]
          exact gI_eq
  · have ek : kd B N s = 0 := if_pos (by omega)
    have ee : en B N s = s := if_pos (by omega)
    rw [e_let, gI_fr (by omega), gI_fr (by omega), h5, h2, if_neg (show ¬ (cI (s : Int) < cI (N : Int)) by rw [cI_lt (by omega) (by omega) (by omega) (by omega)]; omega), e_let]
    refine ok_someI ⟨by rw [ek]; exact gI_eq, (gI_fr (by omega)).trans gI_eq, ?_, fun k j a => ?_⟩
    · rw [ee, gI_fr (by omega), gI_fr (by omega)]
      exact h5
    · rw [gI_fr (by omega), gI_fr (by omega)]
      exact h0 k j a
theorem take_ok {D : aD} {B : Nat → Int} {N e : Nat} (h2 : gI D 56 2 = cI (N : Int)) (h5 : gI D 56 5 = cI (e : Int)) (he : e ≤ N) (hB : BT D B N) : Ok (f_X7_take D) (fun D' => tkD D D' B N e) := by
  have hN := hB.1
  have e1 : ((e : Int)).toNat = e := by omega
  unfold f_X7_take
  have lp : ∀ D1 : aD, gI D1 56 5 = cI ((e + 1 : Nat) : Int) → (∀ k j : Nat, ¬ (k = 56 ∧ j = 5) → gI D1 k j = gI D k j) → e < N → bBk (B e) = true → Ok (J_X7_take_0 D1) (fun D' => tkD D D' B N e) := fun D1 q1 q2 q3 q4 => by
    unfold J_X7_take_0
    refine ok_bindI ((skp_ok (B := B) (N := N) (e := e + 1) ((q2 _ _ (by omega)).trans h2) q1 (by omega) (hB.fr (fun j => q2 _ j (by omega)))).mono fun D2 k => ?_)
    exact take52_ok ((k.2 _ _ (by omega)).trans ((q2 _ _ (by omega)).trans h2)) he (hB.fr (fun j => (k.2 _ j (by omega)).trans (q2 _ j (by omega)))) (by rw [rn_1 q3 q4]; exact k.1) (fun k' j a => (k.2 k' j (by omega)).trans (q2 k' j (by omega)))
  by_cases c : e < N
  · have b := hB.2 e c
    have f := bs_f b.1 b.2.1
    have nx : ∀ z : Int32, z = cI ((e : Int) + 1) → bBk (B e) = true → Ok (J_X7_take_0 (pI D 56 5 z)) (fun D' => tkD D D' B N e) := fun z hz w => lp _ (by rw [gI_eq, hz]; rfl) (fun k j a => gI_fr a) c w
    by_cases z : B e = 32
    · simp (disch := omega) only [e_bi, e_bind, e_let, e_tr, e_tl, cLm1, cLm2, cL0, cL1, cL2, cL3, cL4, cL5, cL6, cL7, cL8, cL9, cL10, cL11, cL12, cL13, cL14, cL15, cL16, cL17, cL18, cL19, cL20, cL21, cL22, cL23, cL24, cL25, cL29, cL30, cL31, cL32, cL36, cL48, cL50, cL51, cL52, cL64, cL99, cL100, cL700, cL1000, cL9999, cL10000, cI_add, cI_sub, cI_mul, cI_neg, cI_lt, cI_le, cI_eq, ne_eq, ifp, ifn, bI_p, bI_n, aZ_0, aZ_1, aZ_b, e_gdt, e_ifT, e_ifF, not_true_eq_false, not_false_eq_true, e_gd, cI_inT, cI_nat, h2, h5, e1, b.2.2]
      exact nx _ rfl (by unfold bBk; simp [z])
    · by_cases y : B e = 10
      · simp (disch := omega) only [e_bi, e_bind, e_let, e_tr, e_tl, cLm1, cLm2, cL0, cL1, cL2, cL3, cL4, cL5, cL6, cL7, cL8, cL9, cL10, cL11, cL12, cL13, cL14, cL15, cL16, cL17, cL18, cL19, cL20, cL21, cL22, cL23, cL24, cL25, cL29, cL30, cL31, cL32, cL36, cL48, cL50, cL51, cL52, cL64, cL99, cL100, cL700, cL1000, cL9999, cL10000, cI_add, cI_sub, cI_mul, cI_neg, cI_lt, cI_le, cI_eq, ne_eq, ifp, ifn, bI_p, bI_n, aZ_0, aZ_1, aZ_b, e_gdt, e_ifT, e_ifF, not_true_eq_false, not_false_eq_true, e_gd, cI_inT, cI_nat, h2, h5, e1, b.2.2]
        exact nx _ rfl (by unfold bBk; simp [y])
      · simp (disch := omega) only [e_bi, e_bind, e_let, e_tr, e_tl, cLm1, cLm2, cL0, cL1, cL2, cL3, cL4, cL5, cL6, cL7, cL8, cL9, cL10, cL11, cL12, cL13, cL14, cL15, cL16, cL17, cL18, cL19, cL20, cL21, cL22, cL23, cL24, cL25, cL29, cL30, cL31, cL32, cL36, cL48, cL50, cL51, cL52, cL64, cL99, cL100, cL700, cL1000, cL9999, cL10000, cI_add, cI_sub, cI_mul, cI_neg, cI_lt, cI_le, cI_eq, ne_eq, ifp, ifn, bI_p, bI_n, aZ_0, aZ_1, aZ_b, e_gdt, e_ifT, e_ifF, not_true_eq_false, not_false_eq_true, e_gd, cI_inT, cI_nat, h2, h5, e1, b.2.2]
        exact take52_ok h2 he hB (by rw [rn_0 c (by unfold bBk; simp [y, z])]; exact h5) (fun _ _ _ => rfl)
  · simp (disch := omega) only [e_bi, e_bind, e_let, e_tr, e_tl, cLm1, cLm2, cL0, cL1, cL2, cL3, cL4, cL5, cL6, cL7, cL8, cL9, cL10, cL11, cL12, cL13, cL14, cL15, cL16, cL17, cL18, cL19, cL20, cL21, cL22, cL23, cL24, cL25, cL29, cL30, cL31, cL32, cL36, cL48, cL50, cL51, cL52, cL64, cL99, cL100, cL700, cL1000, cL9999, cL10000, cI_add, cI_sub, cI_mul, cI_neg, cI_lt, cI_le, cI_eq, ne_eq, ifp, ifn, bI_p, bI_n, aZ_0, aZ_1, aZ_b, e_gdt, e_ifT, e_ifF, not_true_eq_false, not_false_eq_true, e_gd, h2, h5]
    exact take52_ok h2 he hB (by rw [rn_N (by omega)]; exact h5) (fun _ _ _ => rfl)
end TKN
