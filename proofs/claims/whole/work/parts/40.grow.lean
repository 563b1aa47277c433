/-! one plant more: grow -/
section GRW
def plT (T : aT) (s c g : Int) : aT := fun k j => if k = 0 ∧ j = 4 then T 0 4 + 1 else if j = (T 0 4).toNat ∧ k = 8 then s else if j = (T 0 4).toNat ∧ k = 9 then c else if j = (T 0 4).toNat ∧ k = 10 then g else if j = (T 0 4).toNat ∧ k = 13 then 0 else T k j
theorem pl_04 {T : aT} {s c g : Int} : plT T s c g 0 4 = T 0 4 + 1 := by unfold plT; rw [if_pos ⟨rfl, rfl⟩]
theorem pl_o {T : aT} {s c g : Int} {k j : Nat} (h1 : ¬ (k = 0 ∧ j = 4)) (h2 : j ≠ (T 0 4).toNat ∨ (k ≠ 8 ∧ k ≠ 9 ∧ k ≠ 10 ∧ k ≠ 13)) : plT T s c g k j = T k j := by
  unfold plT
  rw [if_neg h1, if_neg (by omega), if_neg (by omega), if_neg (by omega), if_neg (by omega)]
theorem pl_8 {T : aT} {s c g : Int} : plT T s c g 8 (T 0 4).toNat = s := by unfold plT; rw [if_neg (by omega), if_pos ⟨rfl, rfl⟩]
theorem pl_9 {T : aT} {s c g : Int} : plT T s c g 9 (T 0 4).toNat = c := by unfold plT; rw [if_neg (by omega), if_neg (by omega), if_pos ⟨rfl, rfl⟩]
theorem pl_10 {T : aT} {s c g : Int} : plT T s c g 10 (T 0 4).toNat = g := by unfold plT; rw [if_neg (by omega), if_neg (by omega), if_neg (by omega), if_pos ⟨rfl, rfl⟩]
theorem pl_13 {T : aT} {s c g : Int} : plT T s c g 13 (T 0 4).toNat = 0 := by unfold plT; rw [if_neg (by omega), if_neg (by omega), if_neg (by omega), if_neg (by omega), if_pos ⟨rfl, rfl⟩]
theorem pl_row {T : aT} {s c g : Int} {k : Nat} (h1 : k ≠ 0) (h2 : k ≠ 8 ∧ k ≠ 9 ∧ k ≠ 10 ∧ k ≠ 13) : plT T s c g k = T k := funext fun j => pl_o (by omega) (Or.inr h2)
theorem pl_scn {T : aT} {s c g : Int} : scn T (plT T s c g) :=
  ⟨fun j h => pl_o (by omega) (Or.inr (by omega)), fun k a b => pl_row (by omega) (by omega), pl_row (by omega) (by omega), pl_row (by omega) (by omega), pl_row (by omega) (by omega), pl_row (by omega) (by omega)⟩
theorem pl_ok {T : aT} {s c g : Int} (h : TOKs T) (hP : T 0 4 ≤ 12) (h1 : 0 ≤ s) (h2 : s < T 0 2) (h3 : 0 ≤ c) (h4 : c < T 0 0 * T 0 1) (h5 : -1 ≤ g) (h6 : g < T 0 3) : TOKs (plT T s c g) := by
  have hq := h.1
  obtain ⟨a1, a2, a3, a4, a5, a6, a7, a8⟩ := h
  have sc := pl_scn (T := T) (s := s) (c := c) (g := g)
  unfold TOKs
  rw [sc.2.2.1, sc.2.2.2.1, sc.2.2.2.2.1, sc.2.2.2.2.2, sc.2.1 1 (by omega) (by omega), sc.2.1 2 (by omega) (by omega), sc.2.1 3 (by omega) (by omega), sc.2.1 4 (by omega) (by omega), sc.2.1 5 (by omega) (by omega), sc.2.1 6 (by omega) (by omega), sc.2.1 7 (by omega) (by omega), sc.1 0 (by omega), sc.1 1 (by omega), sc.1 2 (by omega), sc.1 3 (by omega), sc.1 5 (by omega), sc.1 6 (by omega), sc.1 7 (by omega), sc.1 8 (by omega), sc.1 9 (by omega), pl_04]
  refine ⟨by omega, fun w hw => by rw [sc.1 _ (by omega)]; exact a2 w hw, a3, fun p hp => ?_, a5, a6, a7, a8⟩
  by_cases e : p = (T 0 4).toNat
  · subst e
    rw [pl_8, pl_9, pl_10, pl_13]
    omega
  · rw [pl_o (by omega) (Or.inl e), pl_o (by omega) (Or.inl e), pl_o (by omega) (Or.inl e), pl_o (by omega) (Or.inl e)]
    exact a4 p (by omega)
theorem taken_iff {T : aT} {c : Nat} : takenN T c = true ↔ ∃ p : Nat, p < (T 0 4).toNat ∧ T 9 p = (c : Int) := by
  unfold takenN
  simp [List.any_eq_true]
theorem hasPlant_eq {D : aD} {T : aT} {c : Nat} (hT : TOKs T) (hM : MS D T) (hP : T 0 4 ≤ 12) (hc : c < 64) : f_X12_hasPlant (cI 0) (cI (T 0 4)) (cI (c : Int)) D = some (cI (if takenN T c then 1 else 0), D) := by
  have hq := hT.1
  refine ok_eq ?_
  unfold f_X12_hasPlant J_X12_hasPlant_3
  refine ok_bindI (ok_lp (fun i t => t = (cI (i : Int), D) ∧ ∀ p : Nat, p < i → T 9 p ≠ (c : Int)) (T 0 4).toNat (by omega) ⟨rfl, fun p h => absurd h (by omega)⟩ ?_)
  rintro i t hi ⟨rfl, h1⟩
  show Ok (B_X12_hasPlant_3 (cI 0) (cI (T 0 4)) (cI (c : Int)) (cI (i : Int)) D) _
  have e : ((i : Int)).toNat = i := by omega
  unfold B_X12_hasPlant_3
  by_cases d : (i : Int) < T 0 4
  · have r := hT.2.2.2.1 i d
    obtain ⟨-, p2, -, -⟩ := MS.plt hM d
    by_cases y : T 9 i = (c : Int)
    · simp (disch := omega) only [e_bi, e_bind, e_let, e_tr, e_tl, cLm1, cLm2, cL0, cL1, cL2, cL3, cL4, cL5, cL6, cL7, cL8, cL9, cL10, cL11, cL12, cL13, cL14, cL15, cL16, cL17, cL18, cL19, cL20, cL21, cL22, cL23, cL24, cL25, cL29, cL30, cL31, cL32, cL36, cL48, cL50, cL51, cL52, cL64, cL99, cL100, cL700, cL1000, cL9999, cL10000, cI_add, cI_sub, cI_mul, cI_neg, cI_lt, cI_le, cI_eq, ne_eq, ifp, ifn, bI_p, bI_n, aZ_0, aZ_1, aZ_b, e_gdt, e_ifT, e_ifF, not_true_eq_false, not_false_eq_true, e_gd, cI_inT, cI_nat, e, p2]
      have tk : takenN T c = true := taken_iff.mpr ⟨i, by omega, y⟩
      refine ok_someI (Or.inr ⟨_, rfl, ?_⟩)
      rw [tk]
      exact ok_someI rfl
    · simp (disch := omega) only [e_bi, e_bind, e_let, e_tr, e_tl, cLm1, cLm2, cL0, cL1, cL2, cL3, cL4, cL5, cL6, cL7, cL8, cL9, cL10, cL11, cL12, cL13, cL14, cL15, cL16, cL17, cL18, cL19, cL20, cL21, cL22, cL23, cL24, cL25, cL29, cL30, cL31, cL32, cL36, cL48, cL50, cL51, cL52, cL64, cL99, cL100, cL700, cL1000, cL9999, cL10000, cI_add, cI_sub, cI_mul, cI_neg, cI_lt, cI_le, cI_eq, ne_eq, ifp, ifn, bI_p, bI_n, aZ_0, aZ_1, aZ_b, e_gdt, e_ifT, e_ifF, not_true_eq_false, not_false_eq_true, e_gd, cI_inT, cI_nat, e, p2]
      refine ok_someI (Or.inl ⟨_, rfl, by omega, rfl, fun p hp => ?_⟩)
      by_cases z : p = i
      · subst z; exact y
      · exact h1 p (by omega)
  · simp (disch := omega) only [e_bi, e_bind, e_let, e_tr, e_tl, cLm1, cLm2, cL0, cL1, cL2, cL3, cL4, cL5, cL6, cL7, cL8, cL9, cL10, cL11, cL12, cL13, cL14, cL15, cL16, cL17, cL18, cL19, cL20, cL21, cL22, cL23, cL24, cL25, cL29, cL30, cL31, cL32, cL36, cL48, cL50, cL51, cL52, cL64, cL99, cL100, cL700, cL1000, cL9999, cL10000, cI_add, cI_sub, cI_mul, cI_neg, cI_lt, cI_le, cI_eq, ne_eq, ifp, ifn, bI_p, bI_n, aZ_0, aZ_1, aZ_b, e_gdt, e_ifT, e_ifF, not_true_eq_false, not_false_eq_true, e_gd]
    have tk : takenN T c = false := by
      refine Bool.eq_false_iff.mpr (fun h => ?_)
      obtain ⟨p, h2, h3⟩ := taken_iff.mp h
      exact h1 p (by omega) h3
    refine ok_someI (Or.inr ⟨_, rfl, ?_⟩)
    rw [tk]
    exact ok_someI rfl
end GRW
