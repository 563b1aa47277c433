/-! town: the reference's tokens -/
section MTK
theorem cL45m : (45 : Int32) = cI 45 := rfl
theorem cL100000 : (100000 : Int32) = cI 100000 := rfl
def MB (D : aD) (B : Nat → Int) (N : Nat) : Prop := N ≤ 700 ∧ gI D 88 20 = cI (N : Int) ∧ ∀ j : Nat, j < N → 0 ≤ B j ∧ B j < 256 ∧ gI D 105 j = cI (B j)
theorem MB.fr {D D' : aD} {B : Nat → Int} {N : Nat} (h : MB D B N) (e1 : gI D' 88 20 = gI D 88 20) (e : ∀ j : Nat, gI D' 105 j = gI D 105 j) : MB D' B N := ⟨h.1, e1.trans h.2.1, fun j a => ⟨(h.2.2 j a).1, (h.2.2 j a).2.1, (e j).trans (h.2.2 j a).2.2⟩⟩
def byX (B : Nat → Int) (N i : Nat) : Int := if i < N then B i else -1
theorem byteAt_eq {D : aD} {B : Nat → Int} {N i : Nat} (h : MB D B N) (hi : i ≤ N) : f_X12_byteAt (cI (i : Int)) D = some (cI (byX B N i), D) := by
  have hN := h.1
  have e1 : ((i : Int)).toNat = i := by omega
  unfold f_X12_byteAt byX
  rw [h.2.1]
  by_cases c : i < N
  · rw [if_neg (show ¬ (cI (N : Int) ≤ cI (i : Int)) by rw [cI_le (by omega) (by omega) (by omega) (by omega)]; omega), if_pos c, e_gd (cI_inT (by omega) (by omega) (by omega)), cI_nat (by omega) (by omega), e1, (h.2.2 i c).2.2]
  · rw [if_pos (show cI (N : Int) ≤ cI (i : Int) by rw [cI_le (by omega) (by omega) (by omega) (by omega)]; omega), if_neg c]
    rfl
theorem by_r {D : aD} {B : Nat → Int} {N : Nat} (h : MB D B N) (i : Nat) : -1 ≤ byX B N i ∧ byX B N i < 256 := by
  unfold byX
  split
  · rename_i c
    have := h.2.2 i c
    omega
  · omega
theorem isLet_eq {D : aD} {b : Int} (h1 : -1 ≤ b) (h2 : b < 256) : f_X12_isLetter (cI b) D = some (cI (if kdb b = 1 then 1 else 0), D) := by
  unfold f_X12_isLetter kdb
  by_cases c1 : b < 97 <;> by_cases c2 : 122 < b <;> by_cases c3 : b < 48 <;> by_cases c4 : 57 < b <;> by_cases c5 : b = 59 <;> by_cases c6 : b = 45 <;> first
    | (exfalso; omega)
    | (simp (disch := omega) only [e_bi, e_bind, e_let, e_tr, e_tl, cLm1, cLm2, cL0, cL1, cL2, cL3, cL4, cL5, cL6, cL7, cL8, cL9, cL10, cL11, cL12, cL13, cL14, cL15, cL16, cL17, cL18, cL19, cL20, cL21, cL22, cL23, cL24, cL25, cL29, cL30, cL31, cL32, cL36, cL48, cL50, cL51, cL52, cL64, cL99, cL100, cL700, cL1000, cL9999, cL10000, cI_add, cI_sub, cI_mul, cI_neg, cI_lt, cI_le, cI_eq, ne_eq, ifp, ifn, bI_p, bI_n, aZ_0, aZ_1, aZ_b, e_gdt, e_ifT, e_ifF, not_true_eq_false, not_false_eq_true, e_gd, cL97, cL122])
theorem isDig_eq {D : aD} {b : Int} (h1 : -1 ≤ b) (h2 : b < 256) : f_X12_isDigit (cI b) D = some (cI (if kdb b = 2 then 1 else 0), D) := by
  unfold f_X12_isDigit kdb
  by_cases c1 : b < 97 <;> by_cases c2 : 122 < b <;> by_cases c3 : b < 48 <;> by_cases c4 : 57 < b <;> by_cases c5 : b = 59 <;> by_cases c6 : b = 45 <;> first
    | (exfalso; omega)
    | (simp (disch := omega) only [e_bi, e_bind, e_let, e_tr, e_tl, cLm1, cLm2, cL0, cL1, cL2, cL3, cL4, cL5, cL6, cL7, cL8, cL9, cL10, cL11, cL12, cL13, cL14, cL15, cL16, cL17, cL18, cL19, cL20, cL21, cL22, cL23, cL24, cL25, cL29, cL30, cL31, cL32, cL36, cL48, cL50, cL51, cL52, cL64, cL99, cL100, cL700, cL1000, cL9999, cL10000, cI_add, cI_sub, cI_mul, cI_neg, cI_lt, cI_le, cI_eq, ne_eq, ifp, ifn, bI_p, bI_n, aZ_0, aZ_1, aZ_b, e_gdt, e_ifT, e_ifF, not_true_eq_false, not_false_eq_true, e_gd, cL57])
theorem kdb_m : kdb (-1) = 5 := by decide
def f19 (D D' : aD) : Prop := (∀ k j : Nat, ¬ (k = 88 ∧ j = 19) → gI D' k j = gI D k j) ∧ D'.2 = D.2
theorem mskp_ok {D : aD} {B : Nat → Int} {N e : Nat} (h : MB D B N) (h5 : gI D 88 19 = cI (e : Int)) (he : e ≤ N) : Ok (aLp (fun s => B_X12_stepOn_0 s) D) (fun D' => gI D' 88 19 = cI (rnE B N bBk e : Nat) ∧ f19 D D') := by
  have hN := h.1
  refine ok_lp (fun i D1 => gI D1 88 19 = cI ((e + i : Nat) : Int) ∧ rnE B N bBk (e + i) = rnE B N bBk e ∧ f19 D D1) (N - e) (by omega) ⟨h5, rfl, fun _ _ _ => rfl, rfl⟩ ?_
  rintro i D1 hi ⟨g1, g2, g3, g4⟩
  show Ok (B_X12_stepOn_0 D1) _
  have h1 : MB D1 B N := h.fr (g3 _ _ (by omega)) (fun j => g3 _ j (by omega))
  unfold B_X12_stepOn_0
  rw [g1, byteAt_eq h1 (by omega), e_bi]
  have r := by_r h1 (e + i)
  have nx : bBk (byX B N (e + i)) = true → e + i < N ∧ bBk (B (e + i)) = true := fun w => by
    unfold byX at w
    by_cases c : e + i < N
    · rw [if_pos c] at w
      exact ⟨c, w⟩
    · rw [if_neg c] at w
      exact absurd w (by decide)
  have go : ∀ z : Int32, z = cI (((e + i : Nat) : Int) + 1) → bBk (byX B N (e + i)) = true → (i < N - e) ∧ gI (pI D1 88 19 z) 88 19 = cI ((e + (i + 1) : Nat) : Int) ∧ rnE B N bBk (e + (i + 1)) = rnE B N bBk e ∧ f19 D (pI D1 88 19 z) := by
    rintro z rfl w
    have w2 := nx w
    exact ⟨by omega, by rw [gI_eq]; rfl, (rn_1 w2.1 w2.2).symm.trans g2, fun k j a => (gI_fr a).trans (g3 k j a), g4⟩
  by_cases z : byX B N (e + i) = 32
  · rw [if_pos (show cI (byX B N (e + i)) = 32 by rw [z]; rfl), e_let, g1]
    exact ok_someI (Or.inl ⟨_, rfl, go _ (cI_add _ 1) (by rw [z]; decide)⟩)
  · rw [if_neg (show ¬ (cI (byX B N (e + i)) = 32) by rw [cL32, cI_eq (by omega) (by omega) (by omega) (by omega)]; exact z), g1, byteAt_eq h1 (by omega), e_bi]
    by_cases y : byX B N (e + i) = 10
    · rw [if_neg (show ¬ (cI (byX B N (e + i)) ≠ 10) by rw [y]; exact fun w => w rfl), e_let, g1]
      exact ok_someI (Or.inl ⟨_, rfl, go _ (cI_add _ 1) (by rw [y]; decide)⟩)
    · rw [if_pos (show cI (byX B N (e + i)) ≠ 10 by rw [cL10, cI_ne (by omega) (by omega) (by omega) (by omega)]; exact y)]
      refine ok_someI (Or.inr ⟨_, rfl, ?_, g3, g4⟩)
      rw [← g2]
      by_cases c : e + i < N
      · rw [rn_0 c (by unfold byX at y z; rw [if_pos c] at y z; unfold bBk; simp [y, z])]
        exact g1
      · rw [rn_N (by omega)]
        exact g1
theorem mlet_ok {D : aD} {B : Nat → Int} {N e : Nat} (h : MB D B N) (h5 : gI D 88 19 = cI (e : Int)) (he : e ≤ N) : Ok (aLp (fun s => B_X12_stepOn_76 s) D) (fun D' => gI D' 88 19 = cI (rnE B N (kq 1) e : Nat) ∧ f19 D D') := by
  have hN := h.1
  refine ok_lp (fun i D1 => gI D1 88 19 = cI ((e + i : Nat) : Int) ∧ rnE B N (kq 1) (e + i) = rnE B N (kq 1) e ∧ f19 D D1) (N - e) (by omega) ⟨h5, rfl, fun _ _ _ => rfl, rfl⟩ ?_
  rintro i D1 hi ⟨g1, g2, g3, g4⟩
  show Ok (B_X12_stepOn_76 D1) _
  have h1 : MB D1 B N := h.fr (g3 _ _ (by omega)) (fun j => g3 _ j (by omega))
  have r := by_r h1 (e + i)
  unfold B_X12_stepOn_76
  rw [g1, byteAt_eq h1 (by omega), e_bi, isLet_eq r.1 r.2, e_bi, g1]
  by_cases z : kdb (byX B N (e + i)) = 1
  · have c : e + i < N := by
      by_cases c : e + i < N
      · exact c
      · unfold byX at z
        rw [if_neg c, kdb_m] at z
        omega
    have zb : kdb (B (e + i)) = 1 := by unfold byX at z; rw [if_pos c] at z; exact z
    rw [if_pos z, if_neg (show ¬ (cI 1 = 0) by decide), e_let]
    exact ok_someI (Or.inl ⟨_, rfl, by omega, by rw [gI_eq, cL1, cI_add]; rfl, (rn_1 c (by unfold kq; simp [zb])).symm.trans g2, fun k j a => (gI_fr a).trans (g3 k j a), g4⟩)
  · rw [if_neg z, if_pos (show cI 0 = 0 from rfl)]
    refine ok_someI (Or.inr ⟨_, rfl, ?_, g3, g4⟩)
    rw [← g2]
    by_cases c : e + i < N
    · rw [rn_0 c (by unfold byX at z; rw [if_pos c] at z; unfold kq; simp [z])]
      exact g1
    · rw [rn_N (by omega)]
      exact g1
def fDig (D D' : aD) : Prop := (∀ k j : Nat, ¬ (k = 88 ∧ (j = 19 ∨ j = 22)) → gI D' k j = gI D k j) ∧ D'.2 = D.2
theorem mdig_ok {D : aD} {B : Nat → Int} {N s : Nat} (h : MB D B N) (h5 : gI D 88 19 = cI (s : Int)) (h2 : gI D 88 22 = cI 0) (he : s ≤ N) : Ok (aLp (fun s => B_X12_stepOn_123 s) D) (fun D' => gI D' 88 19 = cI (rnE B N (kq 2) s : Nat) ∧ (rnE B N (kq 2) s - s ≤ 4 → gI D' 88 22 = cI (vlN B s (rnE B N (kq 2) s - s))) ∧ fDig D D') := by
  have hN := h.1
  refine ok_lp (fun i D1 => gI D1 88 19 = cI ((s + i : Nat) : Int) ∧ rnE B N (kq 2) (s + i) = rnE B N (kq 2) s ∧ (i ≤ 4 → gI D1 88 22 = cI (vlN B s i)) ∧ (∀ j : Nat, j < i → kdb (B (s + j)) = 2) ∧ fDig D D1) (N - s) (by omega) ⟨h5, rfl, fun _ => h2, fun j hj => absurd hj (by omega), fun _ _ _ => rfl, rfl⟩ ?_
  rintro i D1 hi ⟨g1, g2, gv, gd, g3, g4⟩
  show Ok (B_X12_stepOn_123 D1) _
  have h1 : MB D1 B N := h.fr (g3 _ _ (by omega)) (fun j => g3 _ j (by omega))
  have r := by_r h1 (s + i)
  unfold B_X12_stepOn_123
  rw [g1, byteAt_eq h1 (by omega), e_bi, isDig_eq r.1 r.2, e_bi, g1]
  by_cases z : kdb (byX B N (s + i)) = 2
  · have c : s + i < N := by
      by_cases c : s + i < N
      · exact c
      · unfold byX at z
        rw [if_neg c, kdb_m] at z
        omega
    have eb : byX B N (s + i) = B (s + i) := if_pos c
    have zb : kdb (B (s + i)) = 2 := by rw [← eb]; exact z
    have dg := dig zb
    rw [if_pos z, if_neg (show ¬ (cI 1 = 0) by decide), byteAt_eq h1 (by omega), e_bi, e_let, e_let, gI_fr (show ¬ ((88 : Nat) = 88 ∧ (19 : Nat) = 22) by omega), g1, eb]
    refine ok_someI (Or.inl ⟨_, rfl, by omega, by rw [gI_eq, cL1, cI_add]; rfl, (rn_1 c (by unfold kq; simp [zb])).symm.trans g2, fun w => ?_, fun j hj => ?_, fun k j a => (gI_fr (by omega)).trans ((gI_fr (by omega)).trans (g3 k j a)), g4⟩)
    · have v := vl_b (B := B) (s := s) i gd
      have p : (10 : Int) ^ i ≤ 1000 := by
        have e : i = 0 ∨ i = 1 ∨ i = 2 ∨ i = 3 := by omega
        rcases e with rfl | rfl | rfl | rfl <;> decide
      rw [gI_fr (by omega), gI_eq, gv (by omega), cL10, cI_mul, cI_add, cL48, cI_sub, if_pos (show cI (10 * vlN B s i + B (s + i) - 48) < 100000 by rw [cL100000, cI_lt (by omega) (by omega) (by omega) (by omega)]; omega), vlN, Int.mul_comm]
    · by_cases y : j = i
      · subst y; exact zb
      · exact gd j (by omega)
  · rw [if_neg z, if_pos (show cI 0 = 0 from rfl)]
    have fin : rnE B N (kq 2) s = s + i := by
      rw [← g2]
      by_cases c : s + i < N
      · exact rn_0 c (by unfold byX at z; rw [if_pos c] at z; unfold kq; simp [z])
      · exact rn_N (by omega)
    refine ok_someI (Or.inr ⟨_, rfl, ?_, fun w => ?_, g3, g4⟩)
    · rw [fin]; exact g1
    · rw [fin] at w ⊢
      rw [show s + i - s = i by omega] at w ⊢
      exact gv w
def mkk (k : Int) : Int := if k = 4 then 3 else if k = 5 then 4 else k
def fM (D D' : aD) : Prop := (∀ k j : Nat, ¬ (k = 88 ∧ 19 ≤ j ∧ j ≤ 26) → gI D' k j = gI D k j) ∧ gI D' 88 20 = gI D 88 20 ∧ D'.2 = D.2
theorem fM.rf {D : aD} : fM D D := ⟨fun _ _ _ => rfl, rfl, rfl⟩
theorem fM.tr {D D1 D2 : aD} (a : fM D D1) (b : fM D1 D2) : fM D D2 := ⟨fun k j h => (b.1 k j h).trans (a.1 k j h), b.2.1.trans a.2.1, b.2.2.trans a.2.2⟩
theorem fM.wr {D D1 : aD} {j : Nat} {v : Int32} (a : fM D D1) (h : 19 ≤ j ∧ j ≤ 26 ∧ j ≠ 20) : fM D (pI D1 88 j v) := ⟨fun k' j' z => (gI_fr (by omega)).trans (a.1 k' j' z), (gI_fr (by omega)).trans a.2.1, a.2.2⟩
theorem fM.of19 {D D' : aD} (h : f19 D D') : fM D D' := ⟨fun k j a => h.1 k j (by omega), h.1 _ _ (by omega), h.2⟩
theorem fM.ofD {D D' : aD} (h : fDig D D') : fM D D' := ⟨fun k j a => h.1 k j (by omega), h.1 _ _ (by omega), h.2⟩
def tkM (D : aD) (B : Nat → Int) (N s : Nat) : Prop := gI D 88 23 = cI (s : Int) ∧ gI D 88 24 = cI (en B N s : Nat) ∧ gI D 88 19 = cI (en B N s : Nat) ∧ gI D 88 21 = cI (mkk (kd B N s)) ∧ (kd B N s = 2 → en B N s - s ≤ 4 → gI D 88 22 = cI (vlN B s (en B N s - s)))
theorem mstep39_ok {D0 D : aD} {B : Nat → Int} {N s : Nat} (h : MB D B N) (h5 : gI D 88 19 = cI (s : Int)) (he : s ≤ N) (f0 : fM D0 D) (hb : gI D 88 25 = gI D0 88 25 ∧ gI D 88 26 = gI D0 88 26) : Ok (J_X12_stepOn_39 D) (fun D' => tkM D' B N s ∧ fM D0 D' ∧ gI D' 88 25 = gI D0 88 25 ∧ gI D' 88 26 = gI D0 88 26) := by
  have hN := h.1
  unfold J_X12_stepOn_39
  rw [e_let, h5, gI_fr (by omega), h5]
  have h1 : MB (pI D 88 23 (cI (s : Int))) B N := h.fr (gI_fr (by omega)) (fun j => gI_fr (by omega))
  have f1 : fM D0 (pI D 88 23 (cI (s : Int))) := f0.wr (by omega)
  have v19 : gI (pI D 88 23 (cI (s : Int))) 88 19 = cI (s : Int) := (gI_fr (by omega)).trans h5
  have v23 : gI (pI D 88 23 (cI (s : Int))) 88 23 = cI (s : Int) := gI_eq
  have vb : gI (pI D 88 23 (cI (s : Int))) 88 25 = gI D0 88 25 ∧ gI (pI D 88 23 (cI (s : Int))) 88 26 = gI D0 88 26 := ⟨(gI_fr (by omega)).trans hb.1, (gI_fr (by omega)).trans hb.2⟩
  generalize pI D 88 23 (cI (s : Int)) = D1 at h1 f1 v19 v23 vb
  have r := by_r h1 s
  rw [byteAt_eq h1 he, e_bi]
  by_cases c : s < N
  · have eb : byX B N s = B s := if_pos c
    have b := h1.2.2 s c
    have ek : kd B N s = kdb (B s) := if_neg (by omega)
    have ee : en B N s = if kdb (B s) = 1 ∨ kdb (B s) = 2 then rnE B N (kq (kdb (B s))) (s + 1) else s + 1 := if_neg (by omega)
    have rk := kdb_r (B s)
    rw [eb, if_pos (show cI (B s) ≠ -1 by rw [cLm1, cI_ne (by omega) (by omega) (by omega) (by omega)]; omega), isLet_eq (by omega) b.2.1, e_bi]
    by_cases k1 : kdb (B s) = 1
    · rw [if_pos k1, if_neg (show ¬ (cI 1 = 0) by decide)]
      unfold J_X12_stepOn_76
      refine ok_bindI ((mlet_ok h1 v19 he).mono fun D2 k => ?_)
      unfold J_X12_stepOn_103
      obtain ⟨q1, q2⟩ := k
      have e3 : en B N s = rnE B N (kq 1) s := by rw [ee, if_pos (Or.inl k1), k1, rn_1 c (by unfold kq; simp [k1])]
      rw [e_let, gI_fr (by omega), q1, e_let]
      refine ok_someI ⟨⟨?_, ?_, ?_, ?_, fun z => absurd z (by rw [ek, k1]; omega)⟩, ((f1.tr (fM.of19 q2)).wr (by omega)).wr (by omega), ?_, ?_⟩
      · rw [gI_fr (by omega), gI_fr (by omega), q2.1 _ _ (by omega)]; exact v23
      · rw [gI_eq, e3]
      · rw [gI_fr (by omega), gI_fr (by omega), e3]; exact q1
      · rw [gI_fr (by omega), gI_eq, ek, k1]; rfl
      · rw [gI_fr (by omega), gI_fr (by omega), q2.1 _ _ (by omega)]; exact vb.1
      · rw [gI_fr (by omega), gI_fr (by omega), q2.1 _ _ (by omega)]; exact vb.2
    · rw [if_neg k1, if_pos (show cI 0 = 0 from rfl), isDig_eq (by omega) b.2.1, e_bi]
      by_cases k2 : kdb (B s) = 2
      · rw [if_pos k2, if_neg (show ¬ (cI 1 = 0) by decide), e_let]
        unfold J_X12_stepOn_123
        refine ok_bindI ((mdig_ok (D := pI D1 88 22 0) (B := B) (N := N) (s := s) (h1.fr (gI_fr (by omega)) (fun j => gI_fr (by omega))) ((gI_fr (by omega)).trans v19) gI_eq he).mono fun D2 k => ?_)
        unfold J_X12_stepOn_178
        obtain ⟨q1, qv, q2⟩ := k
        have e3 : en B N s = rnE B N (kq 2) s := by rw [ee, if_pos (Or.inr k2), k2, rn_1 c (by unfold kq; simp [k2])]
        have fr : ∀ j : Nat, j ≠ 19 → j ≠ 22 → gI D2 88 j = gI D1 88 j := fun j a b' => (q2.1 _ _ (by omega)).trans (gI_fr (by omega))
        rw [e_let, gI_fr (by omega), q1, e_let]
        refine ok_someI ⟨⟨?_, ?_, ?_, ?_, fun _ w => ?_⟩, (((f1.wr (by omega)).tr (fM.ofD q2)).wr (by omega)).wr (by omega), ?_, ?_⟩
        · rw [gI_fr (by omega), gI_fr (by omega), fr _ (by omega) (by omega)]; exact v23
        · rw [gI_eq, e3]
        · rw [gI_fr (by omega), gI_fr (by omega), e3]; exact q1
        · rw [gI_fr (by omega), gI_eq, ek, k2]; rfl
        · rw [e3] at w ⊢
          rw [gI_fr (by omega), gI_fr (by omega)]; exact qv w
        · rw [gI_fr (by omega), gI_fr (by omega), fr _ (by omega) (by omega)]; exact vb.1
        · rw [gI_fr (by omega), gI_fr (by omega), fr _ (by omega) (by omega)]; exact vb.2
      · have e3 : en B N s = s + 1 := by rw [ee, if_neg (by omega)]
        rw [if_neg k2, if_pos (show cI 0 = 0 from rfl), e_let, v19]
        have q1 : cI (s : Int) + 1 = cI ((s + 1 : Nat) : Int) := cI_add s 1
        rw [q1]
        have fin : ∀ t : Int, t = mkk (kd B N s) → ∀ D2 : aD, D2 = pI (pI (pI D1 88 19 (cI ((s + 1 : Nat) : Int))) 88 21 (cI t)) 88 24 (cI ((s + 1 : Nat) : Int)) → (tkM D2 B N s ∧ fM D0 D2 ∧ gI D2 88 25 = gI D0 88 25 ∧ gI D2 88 26 = gI D0 88 26) := by
          rintro t rfl D2 rfl
          refine ⟨⟨?_, ?_, ?_, ?_, fun z => absurd z (by rw [ek]; exact k2)⟩, ((f1.wr (by omega)).wr (by omega)).wr (by omega), ?_, ?_⟩
          · rw [gI_fr (by omega), gI_fr (by omega), gI_fr (by omega)]; exact v23
          · rw [gI_eq, e3]
          · rw [gI_fr (by omega), gI_fr (by omega), gI_eq, e3]
          · rw [gI_fr (by omega), gI_eq]
          · rw [gI_fr (by omega), gI_fr (by omega), gI_fr (by omega)]; exact vb.1
          · rw [gI_fr (by omega), gI_fr (by omega), gI_fr (by omega)]; exact vb.2
        have w19 : ∀ z : Int32, gI (pI (pI D1 88 19 (cI ((s + 1 : Nat) : Int))) 88 21 z) 88 19 = cI ((s + 1 : Nat) : Int) := fun z => (gI_fr (by omega)).trans gI_eq
        have k59 : kdb (B s) = 3 ↔ B s = 59 := by
          unfold kdb at k1 k2 ⊢
          repeat' split
          all_goals omega
        have k45 : kdb (B s) = 4 ↔ B s = 45 := by
          unfold kdb at k1 k2 ⊢
          repeat' split
          all_goals omega
        by_cases z1 : B s = 59
        · rw [if_pos (show cI (B s) = 59 by rw [z1]; rfl)]
          unfold J_X12_stepOn_209
          rw [e_let, w19, e_let]
          exact ok_someI (fin 3 (by rw [ek, k59.mpr z1]; rfl) _ rfl)
        · rw [if_neg (show ¬ (cI (B s) = 59) by rw [cL59, cI_eq (by omega) (by omega) (by omega) (by omega)]; exact z1)]
          by_cases z2 : B s = 45
          · rw [if_neg (show ¬ (cI (B s) ≠ 45) by rw [z2]; exact fun w => w rfl)]
            unfold J_X12_stepOn_209
            rw [e_let, w19, e_let]
            exact ok_someI (fin 3 (by rw [ek, k45.mpr z2]; rfl) _ rfl)
          · rw [if_pos (show cI (B s) ≠ 45 by rw [cL45, cI_ne (by omega) (by omega) (by omega) (by omega)]; exact z2), e_let, w19, e_let]
            exact ok_someI (fin 4 (by rw [ek, show kdb (B s) = 5 by omega]; rfl) _ rfl)
  · have ek : kd B N s = 0 := if_pos (by omega)
    have ee : en B N s = s := if_pos (by omega)
    have eb : byX B N s = -1 := if_neg c
    rw [eb, if_neg (show ¬ (cI (-1) ≠ -1) from fun w => w rfl), e_let, gI_fr (by omega), v19, e_let]
    refine ok_someI ⟨⟨?_, ?_, ?_, ?_, fun z => absurd z (by rw [ek]; omega)⟩, (f1.wr (by omega)).wr (by omega), ?_, ?_⟩
    · rw [gI_fr (by omega), gI_fr (by omega)]; exact v23
    · rw [gI_eq, ee]
    · rw [gI_fr (by omega), gI_fr (by omega), ee]; exact v19
    · rw [gI_fr (by omega), gI_eq, ek]; rfl
    · rw [gI_fr (by omega), gI_fr (by omega)]; exact vb.1
    · rw [gI_fr (by omega), gI_fr (by omega)]; exact vb.2
theorem mstep_ok {D : aD} {B : Nat → Int} {N e : Nat} (h : MB D B N) (h5 : gI D 88 19 = cI (e : Int)) (he : e ≤ N) : Ok (f_X12_stepOn D) (fun D' => tkM D' B N (rnE B N bBk e) ∧ fM D D' ∧ gI D' 88 25 = gI D 88 25 ∧ gI D' 88 26 = gI D 88 26) := by
  have hN := h.1
  have rb := (rnB (B := B) (P := bBk) he).1
  have r := by_r h e
  unfold f_X12_stepOn
  rw [h5, byteAt_eq h he, e_bi]
  have lp : ∀ z : Int32, z = cI ((e : Int) + 1) → bBk (byX B N e) = true → Ok (J_X12_stepOn_0 (pI D 88 19 z)) (fun D' => tkM D' B N (rnE B N bBk e) ∧ fM D D' ∧ gI D' 88 25 = gI D 88 25 ∧ gI D' 88 26 = gI D 88 26) := by
    rintro z rfl w
    have c : e < N := by
      by_cases c : e < N
      · exact c
      · unfold byX at w
        rw [if_neg c] at w
        exact absurd w (by decide)
    have w' : bBk (B e) = true := by unfold byX at w; rw [if_pos c] at w; exact w
    unfold J_X12_stepOn_0
    refine ok_bindI ((mskp_ok (D := pI D 88 19 (cI ((e : Int) + 1))) (B := B) (N := N) (e := e + 1) (h.fr (gI_fr (by omega)) (fun j => gI_fr (by omega))) gI_eq (by omega)).mono fun D2 k => ?_)
    have f2 : fM D D2 := (fM.rf.wr (by omega)).tr (fM.of19 k.2)
    exact mstep39_ok (h.fr f2.2.1 (fun j => f2.1 _ j (by omega))) (by rw [rn_1 c w']; exact k.1) rb.2 f2 ⟨(k.2.1 _ _ (by omega)).trans (gI_fr (by omega)), (k.2.1 _ _ (by omega)).trans (gI_fr (by omega))⟩
  by_cases z : byX B N e = 32
  · rw [if_pos (show cI (byX B N e) = 32 by rw [z]; rfl), e_let, h5]
    exact lp _ (cI_add _ 1) (by rw [z]; decide)
  · rw [if_neg (show ¬ (cI (byX B N e) = 32) by rw [cL32, cI_eq (by omega) (by omega) (by omega) (by omega)]; exact z), h5, byteAt_eq h he, e_bi]
    by_cases y : byX B N e = 10
    · rw [if_neg (show ¬ (cI (byX B N e) ≠ 10) by rw [y]; exact fun w => w rfl), e_let, h5]
      exact lp _ (cI_add _ 1) (by rw [y]; decide)
    · rw [if_pos (show cI (byX B N e) ≠ 10 by rw [cL10, cI_ne (by omega) (by omega) (by omega) (by omega)]; exact y)]
      have e1 : rnE B N bBk e = e := by
        by_cases c : e < N
        · exact rn_0 c (by unfold byX at y z; rw [if_pos c] at y z; unfold bBk; simp [y, z])
        · exact rn_N (by omega)
      rw [e1]
      exact mstep39_ok h h5 he fM.rf ⟨rfl, rfl⟩
end MTK
