/-! walk, feed -/
section FED
def dgN (a : Int) : Nat → Int
  | 0 => a
  | i + 1 => dgN a i / 8
theorem dg_b {a : Int} (h1 : 0 ≤ a) (h2 : a < 2147483648) : ∀ i : Nat, 0 ≤ dgN a i ∧ dgN a i < 2147483648
  | 0 => ⟨h1, h2⟩
  | i + 1 => by
    have := dg_b h1 h2 i
    rw [dgN]
    omega
theorem dg_p {a : Int} (i : Nat) (hi : i ≤ 5) : a / 8 ^ i = dgN a i := by
  have e : i = 0 ∨ i = 1 ∨ i = 2 ∨ i = 3 ∨ i = 4 ∨ i = 5 := by omega
  rcases e with rfl | rfl | rfl | rfl | rfl | rfl <;> simp only [dgN] <;> omega
def snN (a : Int) : Nat → Int32
  | 0 => cI 0
  | i + 1 => snN a i ||| ((1 : Int32) <<< (cI (dgN a i % 8) &&& 31))
theorem bit1 : ∀ d : Nat, d < 8 → ((1 : Int32) <<< (cI (d : Int) &&& 31)).toBitVec.getLsbD d = true := by decide +kernel
theorem bit2 : ∀ q : Nat, q ≤ 5 → ∀ d : Nat, d < 8 → q ≤ d → (((1 : Int32) <<< (cI (q : Int) &&& 31)) - 1).toBitVec.getLsbD d = false := by decide +kernel
theorem sn_bit {a : Int} {i : Nat} : ∀ n : Nat, i < n → (snN a n).toBitVec.getLsbD (dgN a i % 8).toNat = true
  | 0, h => absurd h (by omega)
  | n + 1, h => by
    rw [snN, Int32.toBitVec_or, BitVec.getLsbD_or]
    by_cases c : i = n
    · subst c
      have b := bit1 (dgN a i % 8).toNat (by omega)
      rw [Int.toNat_of_nonneg (by omega)] at b
      rw [b, Bool.or_true]
    · rw [sn_bit n (by omega), Bool.true_or]
theorem sn_lt {a : Int} {q i : Nat} (hq : q ≤ 5) (h : snN a q = ((1 : Int32) <<< (cI (q : Int) &&& 31)) - 1) (hi : i < q) : dgN a i % 8 < (q : Int) := by
  by_cases c : dgN a i % 8 < (q : Int)
  · exact c
  · have b1 := sn_bit (a := a) (i := i) q hi
    have b2 := bit2 q hq (dgN a i % 8).toNat (by omega) (by omega)
    rw [h, b2] at b1
    cases b1
theorem ushr7 {a : Int} {i : Nat} (h1 : 0 ≤ a) (h2 : a < 2147483648) (hi : i ≤ 5) : ((cI a).toUInt32 >>> ((cI (3 * (i : Int))).toUInt32 &&& Int32.toUInt32 31)).toInt32 &&& 7 = cI (dgN a i % 8) := by
  have b := dg_b h1 h2 i
  rw [ushr_c h1 h2 hi, dg_p i hi, and7 b.1 b.2]
def wkT (T : aT) (a b : Int) : aT := fun k j => if k = 14 ∧ (j : Int) < T 0 5 then dgN a j % 8 else if k = 15 ∧ j = 0 then b else T k j
def wkOk (T : aT) (a : Int) : Prop := 0 ≤ a ∧ dgN a (T 0 5).toNat = 0 ∧ snN a (T 0 5).toNat = ((1 : Int32) <<< (cI (T 0 5) &&& 31)) - 1
theorem isOrder_eq {D : aD} {T : aT} {a : Int} (hp : TOKp T) (hC : CP D 2 T) (h1 : -2147483648 ≤ a) (h2 : a < 2147483648) : (wkOk T a → f_X11_isOrder (cI a) D = some (cI 1, D)) ∧ (¬ wkOk T a → f_X11_isOrder (cI a) D = some (cI 0, D)) := by
  have hq := hp.1
  obtain ⟨-, -, q3, -⟩ := CP.two hC
  have q5 := q3 5 (by omega) (by omega)
  have eq : (((T 0 5).toNat : Nat) : Int) = T 0 5 := by omega
  unfold wkOk f_X11_isOrder
  by_cases c0 : a < 0
  · rw [if_pos (show cI a < 0 by show cI a < cI 0; rw [cI_lt h1 h2 (by omega) (by omega)]; exact c0)]
    exact ⟨fun h => absurd h.1 (by omega), fun _ => rfl⟩
  · have b := dg_b (a := a) (by omega) h2 (T 0 5).toNat
    rw [if_neg (show ¬ (cI a < 0) by show ¬ (cI a < cI 0); rw [cI_lt h1 h2 (by omega) (by omega)]; exact c0), q5]
    have e1 : ((cI a).toUInt32 >>> ((3 * cI (T 0 5)).toUInt32 &&& Int32.toUInt32 31)).toInt32 = cI (dgN a (T 0 5).toNat) := by
      have := ushr_c (a := a) (i := (T 0 5).toNat) (by omega) h2 (by omega)
      rw [eq, dg_p _ (by omega)] at this
      rw [show (3 : Int32) * cI (T 0 5) = cI (3 * T 0 5) from cI_mul 3 (T 0 5)]
      exact this
    rw [e1]
    by_cases c1 : dgN a (T 0 5).toNat = 0
    · rw [if_pos (show cI (dgN a (T 0 5).toNat) = 0 by rw [c1]; rfl)]
      have L : aLp (fun s : Int32 × Int32 × aD => B_X11_isOrder_24 (cI a) s.1 s.2.1 s.2.2) (cI 0, cI 0, D) = some (snN a (T 0 5).toNat, D) := by
        refine lp_cnt (body := fun s : Int32 × Int32 × aD => B_X11_isOrder_24 (cI a) s.1 s.2.1 s.2.2) (T 0 5).toNat (by omega) (fun i => (snN a i, cI (i : Int), D)) (snN a (T 0 5).toNat, D) ?_ ?_
        · intro i hi
          show B_X11_isOrder_24 (cI a) (snN a i) (cI (i : Int)) D = _
          unfold B_X11_isOrder_24
          rw [q5, if_neg (show ¬ (cI (T 0 5) ≤ cI (i : Int)) by rw [cI_le (by omega) (by omega) (by omega) (by omega)]; omega)]
          rw [show (3 : Int32) * cI (i : Int) = cI (3 * (i : Int)) from cI_mul 3 i, ushr7 (by omega) h2 (by omega)]
          simp only [e_let, cL1, cI_add]
          rfl
        · show B_X11_isOrder_24 (cI a) (snN a (T 0 5).toNat) (cI (((T 0 5).toNat : Nat) : Int)) D = _
          unfold B_X11_isOrder_24
          rw [q5]
          simp (disch := omega) only [cI_le, ifp]
      unfold J_X11_isOrder_24
      rw [show aLp (fun s : Int32 × Int32 × aD => B_X11_isOrder_24 (cI a) s.1 s.2.1 s.2.2) (0, 0, D) = _ from L, e_bind]
      unfold J_X11_isOrder_54
      dsimp only
      rw [q5]
      by_cases c2 : snN a (T 0 5).toNat = ((1 : Int32) <<< (cI (T 0 5) &&& 31)) - 1
      · rw [if_neg (fun z => z c2)]
        exact ⟨fun _ => rfl, fun h => absurd ⟨by omega, c1, c2⟩ h⟩
      · rw [if_pos c2]
        exact ⟨fun h => absurd h.2.2 c2, fun _ => rfl⟩
    · rw [if_neg (show ¬ (cI (dgN a (T 0 5).toNat) = 0) by show ¬ (cI _ = cI 0); rw [cI_eq (by omega) (by omega) (by omega) (by omega)]; exact c1)]
      exact ⟨fun h => absurd h.2.1 c1, fun _ => rfl⟩
theorem wk_now {T : aT} {a b : Int} {D D' : aD} {h o n st fk f : Nat} (hd : dsN h o n st fk) (H : aNow D h o n st fk f T) (e1 : ∀ j : Nat, (j : Int) < T 0 5 → gI D' o j = cI (dgN a j % 8)) (e2 : gI D' fk f = cI b) (e3 : ∀ k j : Nat, ¬ (k = o ∧ (j : Int) < T 0 5) → ¬ (k = fk ∧ j = f) → gI D' k j = gI D k j) : aNow D' h o n st fk f (wkT T a b) := by
  unfold dsN at hd
  obtain ⟨a1, a2, a3, a4, a5⟩ := H
  have t0 : ∀ k j : Nat, k ≠ 14 → ¬ (k = 15 ∧ j = 0) → wkT T a b k j = T k j := fun k j x y => by unfold wkT; rw [if_neg (fun z => x z.1), if_neg y]
  refine ⟨fun p hp => ?_, fun i hi => ?_, fun r i hr hi => ?_, fun i hi => ?_, fun j hj => ?_⟩
  · rw [e3 _ _ (by omega) (by omega), t0 _ _ (by omega) (by omega)]; exact a1 p (by rw [t0 _ _ (by omega) (by omega)] at hp; exact hp)
  · by_cases c : (i : Int) < T 0 5
    · rw [e1 i c]; unfold wkT; rw [if_pos ⟨rfl, c⟩]
    · rw [e3 _ _ (by omega) (by omega), a2 i hi]; unfold wkT; rw [if_neg (fun z => c z.2), if_neg (by omega)]
  · rw [e3 _ _ (by omega) (by omega), t0 _ _ (by omega) (by omega)]; exact a3 r i hr hi
  · rw [e3 _ _ (by omega) (by omega), t0 _ _ (by omega) (by omega)]; exact a4 i hi
  · by_cases c : j = 0
    · subst c; rw [Nat.add_zero, e2]; unfold wkT; rw [if_neg (by omega), if_pos ⟨rfl, rfl⟩]
    · rw [e3 _ _ (by omega) (by omega), t0 _ _ (by omega) (by omega)]; exact a5 j hj
theorem walk_cls {D : aD} {T : aT} {a b : Int} (hp : TOKp T) (hC : CP D 2 T) (hN : CNow D T) (h1 : 0 ≤ a) (h2 : a < 2147483648) : Ok (J_X11_walk_21 (cI a) (cI b) 0 D) (fun r => r.1 = cI 1 ∧ CNow r.2 (wkT T a b) ∧ ∀ k j : Nat, ¬ (k = 42 ∨ k = 40) → gI r.2 k j = gI D k j) := by
  have hq := hp.1
  unfold J_X11_walk_21
  refine ok_bindI (ok_lp (fun i t => t.1 = cI (i : Int) ∧ (∀ j : Nat, j < i → gI t.2 42 j = cI (dgN a j % 8)) ∧ ∀ k j : Nat, ¬ (k = 42 ∧ j < i) → gI t.2 k j = gI D k j) (T 0 5).toNat (by omega) ⟨rfl, fun j h => absurd h (by omega), fun _ _ _ => rfl⟩ ?_)
  rintro i ⟨x, D1⟩ hi ⟨rfl, g1, g2⟩
  show Ok (B_X11_walk_21 (cI a) (cI b) (cI (i : Int)) D1) _
  have q5 : gI D1 2 5 = cI (T 0 5) := (g2 _ _ (by omega)).trans ((CP.two hC).2.2.1 5 (by omega) (by omega))
  have e : ((i : Int)).toNat = i := by omega
  unfold B_X11_walk_21
  rw [q5]
  by_cases c : (i : Int) < T 0 5
  · rw [if_neg (show ¬ (cI (T 0 5) ≤ cI (i : Int)) by rw [cI_le (by omega) (by omega) (by omega) (by omega)]; omega)]
    rw [show (3 : Int32) * cI (i : Int) = cI (3 * (i : Int)) from cI_mul 3 i, ushr7 h1 h2 (by omega)]
    simp (disch := omega) only [e_bi, e_bind, e_let, e_tr, e_tl, cLm1, cLm2, cL0, cL1, cL2, cL3, cL4, cL5, cL6, cL7, cL8, cL9, cL10, cL11, cL12, cL13, cL14, cL15, cL16, cL17, cL18, cL19, cL20, cL21, cL22, cL23, cL24, cL25, cL29, cL30, cL31, cL32, cL36, cL48, cL50, cL51, cL52, cL64, cL99, cL100, cL700, cL1000, cL9999, cL10000, cI_add, cI_sub, cI_mul, cI_neg, cI_lt, cI_le, cI_eq, ne_eq, ifp, ifn, bI_p, bI_n, aZ_0, aZ_1, aZ_b, e_gdt, e_ifT, e_ifF, not_true_eq_false, not_false_eq_true, e_gd, cI_inT, cI_nat, e]
    refine ok_someI (Or.inl ⟨_, rfl, by omega, rfl, fun j hj => ?_, fun k j hk => ?_⟩)
    · show gI (pI D1 42 i _) 42 j = _
      by_cases y : j = i
      · subst y; exact gI_eq
      · rw [gI_fr (by omega)]; exact g1 j (by omega)
    · show gI (pI D1 42 i _) k j = _
      rw [gI_fr (by omega)]; exact g2 k j (by omega)
  · simp (disch := omega) only [e_bi, e_bind, e_let, e_tr, e_tl, cLm1, cLm2, cL0, cL1, cL2, cL3, cL4, cL5, cL6, cL7, cL8, cL9, cL10, cL11, cL12, cL13, cL14, cL15, cL16, cL17, cL18, cL19, cL20, cL21, cL22, cL23, cL24, cL25, cL29, cL30, cL31, cL32, cL36, cL48, cL50, cL51, cL52, cL64, cL99, cL100, cL700, cL1000, cL9999, cL10000, cI_add, cI_sub, cI_mul, cI_neg, cI_lt, cI_le, cI_eq, ne_eq, ifp, ifn, bI_p, bI_n, aZ_0, aZ_1, aZ_b, e_gdt, e_ifT, e_ifF, not_true_eq_false, not_false_eq_true, e_gd]
    obtain rfl : i = (T 0 5).toNat := by omega
    refine ok_someI (Or.inr ⟨_, rfl, ?_⟩)
    show Ok (J_X11_walk_55 (cI b) D1) _
    unfold J_X11_walk_55
    simp only [e_let, cL1]
    refine ok_someI ⟨rfl, wk_now dsC hN (fun j hj => (gI_fr (by omega)).trans (g1 j (by omega))) gI_eq (fun k j a1 a2 => (gI_fr (by omega)).trans (g2 k j (by omega))), fun k j hk => (gI_fr (by omega)).trans (g2 k j (by omega))⟩
theorem walk_mod {D : aD} {T : aT} {a b : Int} (hp : TOKp T) (hM : MT D T) (hN : MNow D T) (h1 : 0 ≤ a) (h2 : a < 2147483648) : Ok (J_X12_walk_94 (cI b) (cI a) 0 D) (fun r => r.1 = cI 1 ∧ MNow r.2 (wkT T a b) ∧ ∀ k j : Nat, ¬ (k = 107 ∨ (k = 88 ∧ j = 31)) → gI r.2 k j = gI D k j) := by
  have hq := hp.1
  unfold J_X12_walk_94
  refine ok_bindI (ok_lp (fun i t => t.1 = cI (dgN a i) ∧ t.2.1 = cI (i : Int) ∧ (∀ j : Nat, j < i → gI t.2.2 107 j = cI (dgN a j % 8)) ∧ ∀ k j : Nat, ¬ (k = 107 ∧ j < i) → gI t.2.2 k j = gI D k j) (T 0 5).toNat (by omega) ⟨rfl, rfl, fun j h => absurd h (by omega), fun _ _ _ => rfl⟩ ?_)
  rintro i ⟨x, y, D1⟩ hi ⟨rfl, rfl, g1, g2⟩
  show Ok (B_X12_walk_94 (cI b) (cI (dgN a i)) (cI (i : Int)) D1) _
  have m5 : gI D1 91 5 = cI (T 0 5) := (g2 _ _ (by omega)).trans ((MT.two hM).1 5 (by omega))
  have e : ((i : Int)).toNat = i := by omega
  have b := dg_b h1 h2 i
  unfold B_X12_walk_94
  by_cases c : (i : Int) < T 0 5
  · simp (disch := omega) only [e_bi, e_bind, e_let, e_tr, e_tl, cLm1, cLm2, cL0, cL1, cL2, cL3, cL4, cL5, cL6, cL7, cL8, cL9, cL10, cL11, cL12, cL13, cL14, cL15, cL16, cL17, cL18, cL19, cL20, cL21, cL22, cL23, cL24, cL25, cL29, cL30, cL31, cL32, cL36, cL48, cL50, cL51, cL52, cL64, cL99, cL100, cL700, cL1000, cL9999, cL10000, cI_add, cI_sub, cI_mul, cI_neg, cI_lt, cI_le, cI_eq, ne_eq, ifp, ifn, bI_p, bI_n, aZ_0, aZ_1, aZ_b, e_gdt, e_ifT, e_ifF, not_true_eq_false, not_false_eq_true, e_gd, cX0, cX1, cX2, cX3, cX4, cX5, cX6, cX7, cX8, cX9, cX10, cX11, cX12, cX13, cX14, cX15, cX16, cX17, cX18, cX19, cX20, cX21, cX22, cX23, cX24, cX25, cX29, cX30, cX31, cX32, cX36, Int.reduceToNat, cI_inT, cI_nat, e, m5, cI_div, rem_e]
    refine ok_someI (Or.inl ⟨_, rfl, by omega, rfl, rfl, fun j hj => ?_, fun k j hk => ?_⟩)
    · show gI (pI D1 107 i _) 107 j = _
      by_cases y : j = i
      · subst y; exact gI_eq
      · rw [gI_fr (by omega)]; exact g1 j (by omega)
    · show gI (pI D1 107 i _) k j = _
      rw [gI_fr (by omega)]; exact g2 k j (by omega)
  · simp (disch := omega) only [e_bi, e_bind, e_let, e_tr, e_tl, cLm1, cLm2, cL0, cL1, cL2, cL3, cL4, cL5, cL6, cL7, cL8, cL9, cL10, cL11, cL12, cL13, cL14, cL15, cL16, cL17, cL18, cL19, cL20, cL21, cL22, cL23, cL24, cL25, cL29, cL30, cL31, cL32, cL36, cL48, cL50, cL51, cL52, cL64, cL99, cL100, cL700, cL1000, cL9999, cL10000, cI_add, cI_sub, cI_mul, cI_neg, cI_lt, cI_le, cI_eq, ne_eq, ifp, ifn, bI_p, bI_n, aZ_0, aZ_1, aZ_b, e_gdt, e_ifT, e_ifF, not_true_eq_false, not_false_eq_true, e_gd, cX0, cX1, cX2, cX3, cX4, cX5, cX6, cX7, cX8, cX9, cX10, cX11, cX12, cX13, cX14, cX15, cX16, cX17, cX18, cX19, cX20, cX21, cX22, cX23, cX24, cX25, cX29, cX30, cX31, cX32, cX36, Int.reduceToNat, cI_inT, m5]
    obtain rfl : i = (T 0 5).toNat := by omega
    refine ok_someI (Or.inr ⟨_, rfl, ?_⟩)
    show Ok (J_X12_walk_127 (cI _) D1) _
    unfold J_X12_walk_127
    simp only [e_let, cL1]
    refine ok_someI ⟨rfl, wk_now dsM hN (fun j hj => (gI_fr (by omega)).trans (g1 j (by omega))) gI_eq (fun k j a1 a2 => (gI_fr (by omega)).trans (g2 k j (by omega))), fun k j hk => (gI_fr (by omega)).trans (g2 k j (by omega))⟩
theorem walk_scan {D : aD} {T : aT} {a : Int} {b : Int32} (hp : TOKp T) (hM : MT D T) (h1 : -2147483648 ≤ a) (h2 : a < 2147483648) {Q : Int32 × aD → Prop} (k : ∀ x y : Int32, (0 ≤ a → x = cI (dgN a (T 0 5).toNat) ∧ y = snN a (T 0 5).toNat) → Ok (J_X12_walk_54 (cI a) b x y D) Q) : Ok (J_X12_walk_13 (cI a) b (cI a) 0 0 D) Q := by
  have hq := hp.1
  have m5 := (MT.two hM).1 5 (by omega)
  unfold J_X12_walk_13
  refine ok_bindI (ok_lp (fun i t => (0 ≤ a → t.1 = cI (dgN a i) ∧ t.2.1 = snN a i) ∧ t.2.2.1 = cI (i : Int) ∧ t.2.2.2 = D) (T 0 5).toNat (by omega) ⟨fun _ => ⟨rfl, rfl⟩, rfl, rfl⟩ ?_)
  rintro i ⟨x, y, z, D1⟩ hi ⟨g1, rfl, rfl⟩
  show Ok (B_X12_walk_13 (cI a) b x y (cI (i : Int)) D1) _
  unfold B_X12_walk_13 J_X12_walk_40
  rw [cL8]
  by_cases c : (i : Int) < T 0 5
  · by_cases c0 : 0 ≤ a
    · obtain ⟨rfl, rfl⟩ := g1 c0
      have bb := dg_b c0 h2 i
      have e : cI (dgN a i) - cI (dgN a i) / cI 8 * cI 8 = cI (dgN a i % 8) := cI_rem bb.1 bb.2 (by omega) (by omega)
      have e2 : cI (dgN a i) / cI 8 = cI (dgN a (i + 1)) := cI_div bb.1 bb.2 (by omega) (by omega)
      have e3 : ¬ (cI (dgN a i) < 0) := by
        show ¬ (cI _ < cI 0)
        rw [cI_lt (by omega) (by omega) (by omega) (by omega)]
        omega
      have m5' : gI D1 91 ((5 : Int32).toNatClampNeg) = cI (T 0 5) := m5
      rw [e_gd (by decide), m5', if_neg (show ¬ (cI (T 0 5) ≤ cI (i : Int)) by rw [cI_le (by omega) (by omega) (by omega) (by omega)]; omega), if_neg e3, e]
      rw [e_let, e_let, e2, e_let]
      exact ok_someI (Or.inl ⟨_, rfl, by omega, fun _ => ⟨rfl, rfl⟩, by simp only [cL1, cI_add]; rfl, rfl⟩)
    · have m5' : gI D1 91 ((5 : Int32).toNatClampNeg) = cI (T 0 5) := m5
      rw [e_gd (by decide), m5', if_neg (show ¬ (cI (T 0 5) ≤ cI (i : Int)) by rw [cI_le (by omega) (by omega) (by omega) (by omega)]; omega)]
      by_cases c1 : x < 0
      · rw [if_pos c1, e_let, e_let, e_let]
        exact ok_someI (Or.inl ⟨_, rfl, by omega, fun h => absurd h c0, by simp only [cL1, cI_add]; rfl, rfl⟩)
      · rw [if_neg c1, e_let, e_let, e_let]
        exact ok_someI (Or.inl ⟨_, rfl, by omega, fun h => absurd h c0, by simp only [cL1, cI_add]; rfl, rfl⟩)
  · simp (disch := omega) only [e_bi, e_bind, e_let, e_tr, e_tl, cLm1, cLm2, cL0, cL1, cL2, cL3, cL4, cL5, cL6, cL7, cL8, cL9, cL10, cL11, cL12, cL13, cL14, cL15, cL16, cL17, cL18, cL19, cL20, cL21, cL22, cL23, cL24, cL25, cL29, cL30, cL31, cL32, cL36, cL48, cL50, cL51, cL52, cL64, cL99, cL100, cL700, cL1000, cL9999, cL10000, cI_add, cI_sub, cI_mul, cI_neg, cI_lt, cI_le, cI_eq, ne_eq, ifp, ifn, bI_p, bI_n, aZ_0, aZ_1, aZ_b, e_gdt, e_ifT, e_ifF, not_true_eq_false, not_false_eq_true, e_gd, cX0, cX1, cX2, cX3, cX4, cX5, cX6, cX7, cX8, cX9, cX10, cX11, cX12, cX13, cX14, cX15, cX16, cX17, cX18, cX19, cX20, cX21, cX22, cX23, cX24, cX25, cX29, cX30, cX31, cX32, cX36, Int.reduceToNat, cI_inT, m5]
    obtain rfl : i = (T 0 5).toNat := by omega
    exact ok_someI (Or.inr ⟨_, rfl, k x y g1⟩)
theorem step_7 {D : aD} {v1 v2 v3 v4 v5 : Int32} (h : lawP D) : Ok2 (f_law_7 v1 v2 v3 v4 v5 D) (fun r D => r = 1 ∧ lawP D) := by
  obtain ⟨T, K, L, B, H⟩ := h
  have ⟨hp, hn, hC, hN, hM, hR, _⟩ := H
  have hq := hp.1
  have eq : (((T 0 5).toNat : Nat) : Int) = T 0 5 := by omega
  obtain ⟨a, rfl, ha1, ha2⟩ := cI_of v1
  obtain ⟨b, rfl, hb1, hb2⟩ := cI_of v2
  unfold f_law_7
  have io := isOrder_eq hp hC ha1 ha2
  by_cases x : wkOk T a ∧ 0 ≤ b ∧ b < 24
  · obtain ⟨x1, x2⟩ := x
    have x1' := x1
    unfold wkOk at x1'
    refine eq_step (fc := f_X11_walk (cI a) (cI b) D) (fm := fun D => f_X12_walk (cI a) (cI b) D) (P := lawP) (C := fun D' => CNow D' (wkT T a b) ∧ ∀ k j : Nat, ¬ (k = 42 ∨ k = 40) → gI D' k j = gI D k j) (cI 1) ?_ ?_
    · unfold f_X11_walk
      simp (disch := omega) only [e_bi, e_bind, e_let, e_tr, e_tl, cLm1, cLm2, cL0, cL1, cL2, cL3, cL4, cL5, cL6, cL7, cL8, cL9, cL10, cL11, cL12, cL13, cL14, cL15, cL16, cL17, cL18, cL19, cL20, cL21, cL22, cL23, cL24, cL25, cL29, cL30, cL31, cL32, cL36, cL48, cL50, cL51, cL52, cL64, cL99, cL100, cL700, cL1000, cL9999, cL10000, cI_add, cI_sub, cI_mul, cI_neg, cI_lt, cI_le, cI_eq, ne_eq, ifp, ifn, bI_p, bI_n, aZ_0, aZ_1, aZ_b, e_gdt, e_ifT, e_ifF, not_true_eq_false, not_false_eq_true, e_gd, isBelow_eq, io.1 x1]
      exact walk_cls hp hC hN x1'.1 ha2
    · rintro D' ⟨d1, d2⟩
      have hM' : MT D' T := hM.fr (fun k j a b => d2 k j (by omega)) (d2 _ _ (by omega))
      have hM0 : MT (pI D' 88 2 (cI 0)) T := hM'.fr (fun k j a b => gI_fr (by omega)) (gI_fr (by omega))
      have hR' : MNow D' T := hR.fr (fun j => d2 _ _ (by omega)) (fun j => d2 _ _ (by omega)) (fun r j hr => d2 _ _ (by omega)) (fun j => d2 _ _ (by omega)) (fun j hj => d2 _ _ (by omega))
      have hR0 : MNow (pI D' 88 2 (cI 0)) T := aNow.one hR' (by omega)
      unfold f_X12_walk
      rw [e_let]
      refine walk_scan hp hM0 ha1 ha2 (fun x y hxy => ?_)
      obtain ⟨rfl, rfl⟩ := hxy x1'.1
      unfold J_X12_walk_54
      have m5' : gI (pI D' 88 2 (cI 0)) 91 ((5 : Int32).toNatClampNeg) = cI (T 0 5) := (MT.two hM0).1 5 (by omega)
      show Ok (if cI a < 0 then some (0, pI D' 88 2 (cI 0)) else if cI (dgN a (T 0 5).toNat) ≠ 0 then some (0, pI D' 88 2 (cI 0)) else aGd (aIn 5 32) (if snN a (T 0 5).toNat ≠ ((1 : Int32) <<< (gI (pI D' 88 2 (cI 0)) 91 ((5 : Int32).toNatClampNeg) &&& 31)) - 1 then some (0, pI D' 88 2 (cI 0)) else _)) _
      rw [m5', if_neg (show ¬ (cI a < 0) by show ¬ (cI a < cI 0); rw [cI_lt ha1 ha2 (by omega) (by omega)]; omega), x1'.2.1, if_neg (fun z => z rfl), e_gd (by decide), if_neg (fun z => z x1'.2.2)]
      simp (disch := omega) only [e_bi, e_bind, e_let, e_tr, e_tl, cLm1, cLm2, cL0, cL1, cL2, cL3, cL4, cL5, cL6, cL7, cL8, cL9, cL10, cL11, cL12, cL13, cL14, cL15, cL16, cL17, cL18, cL19, cL20, cL21, cL22, cL23, cL24, cL25, cL29, cL30, cL31, cL32, cL36, cL48, cL50, cL51, cL52, cL64, cL99, cL100, cL700, cL1000, cL9999, cL10000, cI_add, cI_sub, cI_mul, cI_neg, cI_lt, cI_le, cI_eq, ne_eq, ifp, ifn, bI_p, bI_n, aZ_0, aZ_1, aZ_b, e_gdt, e_ifT, e_ifF, not_true_eq_false, not_false_eq_true, e_gd, isIn_eq]
      refine (walk_mod hp hM0 hR0 x1'.1 ha2).mono fun r q => ⟨q.1, wkT T a b, K, L, B, H.nw ?_ ?_ ?_ q.2.1 ?_⟩
      · intro k hk
        funext j
        unfold wkT
        rw [if_neg (by omega), if_neg (by omega)]
      · have t0 : ∀ k j : Nat, k ≠ 14 → ¬ (k = 15 ∧ j = 0) → wkT T a b k j = T k j := fun k j x y => by unfold wkT; rw [if_neg (fun z => x z.1), if_neg y]
        have t1 : wkT T a b 15 0 = b := by unfold wkT; rw [if_neg (by omega), if_pos ⟨rfl, rfl⟩]
        obtain ⟨n1, n2, n3, n4⟩ := hn
        unfold TOKn
        rw [t1, t0 15 1 (by omega) (by omega), t0 15 2 (by omega) (by omega), t0 0 4 (by omega) (by omega), t0 0 5 (by omega) (by omega), t0 0 2 (by omega) (by omega)]
        refine ⟨by omega, fun p hp => by rw [t0 _ _ (by omega) (by omega)]; exact n2 p hp, fun i hi => ?_, fun i hi => by rw [t0 _ _ (by omega) (by omega), t0 _ _ (by omega) (by omega), t0 _ _ (by omega) (by omega), t0 _ _ (by omega) (by omega)]; exact n4 i hi⟩
        have s := sn_lt (a := a) (q := (T 0 5).toNat) (i := i) (by omega) (by rw [eq]; exact x1'.2.2) (by omega)
        have bb := dg_b x1'.1 ha2 i
        unfold wkT
        rw [if_pos ⟨rfl, hi⟩]
        omega
      · refine aNow.fr d1 (fun j => ?_) (fun j => ?_) (fun r' j hr => ?_) (fun j => ?_) (fun j hj => ?_) <;>
        (rw [q.2.2 _ _ (by omega)]; exact gI_fr (by omega))
      · intro k j y1 y2 y3
        unfold mScr at y2
        unfold nowC at y3
        rw [q.2.2 _ _ (by omega), gI_fr (by omega)]
        exact d2 k j (by omega)
  · refine eq_step (fc := f_X11_walk (cI a) (cI b) D) (fm := fun D => f_X12_walk (cI a) (cI b) D) (P := lawP) (C := fun D' => D' = D) (cI 0) ?_ ?_
    · unfold f_X11_walk
      by_cases x2 : 0 ≤ b ∧ b < 24
      · have x1 : ¬ wkOk T a := fun z => x ⟨z, x2⟩
        simp (disch := omega) only [e_bi, e_bind, e_let, e_tr, e_tl, cLm1, cLm2, cL0, cL1, cL2, cL3, cL4, cL5, cL6, cL7, cL8, cL9, cL10, cL11, cL12, cL13, cL14, cL15, cL16, cL17, cL18, cL19, cL20, cL21, cL22, cL23, cL24, cL25, cL29, cL30, cL31, cL32, cL36, cL48, cL50, cL51, cL52, cL64, cL99, cL100, cL700, cL1000, cL9999, cL10000, cI_add, cI_sub, cI_mul, cI_neg, cI_lt, cI_le, cI_eq, ne_eq, ifp, ifn, bI_p, bI_n, aZ_0, aZ_1, aZ_b, e_gdt, e_ifT, e_ifF, not_true_eq_false, not_false_eq_true, e_gd, isBelow_eq, io.2 x1]
        exact ok_someI ⟨rfl, rfl⟩
      · simp (disch := omega) only [cL24, isBelow_eq, e_bi, bI_n, cL0, cI_eq, ne_eq, ifn, ifp]
        exact ok_someI ⟨rfl, rfl⟩
    · rintro D' rfl
      have H0 := H.code (x := cI 0)
      have hM0 := H0.2.2.2.2.1
      unfold f_X12_walk
      rw [e_let]
      refine walk_scan hp hM0 ha1 ha2 (fun y z hyz => ?_)
      have fin : Ok (some ((0 : Int32), pI D' 88 2 (cI 0))) (fun r => r.1 = cI 0 ∧ lawP r.2) := ok_someI ⟨rfl, T, K, L, B, H0⟩
      unfold J_X12_walk_54
      have m5' : gI (pI D' 88 2 (cI 0)) 91 ((5 : Int32).toNatClampNeg) = cI (T 0 5) := (MT.two hM0).1 5 (by omega)
      by_cases c0 : a < 0
      · rw [if_pos (show cI a < 0 by show cI a < cI 0; rw [cI_lt ha1 ha2 (by omega) (by omega)]; exact c0)]
        exact fin
      · rw [if_neg (show ¬ (cI a < 0) by show ¬ (cI a < cI 0); rw [cI_lt ha1 ha2 (by omega) (by omega)]; omega)]
        obtain ⟨rfl, rfl⟩ := hyz (by omega)
        have bb := dg_b (show 0 ≤ a by omega) ha2 (T 0 5).toNat
        by_cases c1 : dgN a (T 0 5).toNat = 0
        · rw [c1, if_neg (fun z => z rfl), e_gd (by decide)]
          show Ok (if snN a (T 0 5).toNat ≠ ((1 : Int32) <<< (gI (pI D' 88 2 (cI 0)) 91 ((5 : Int32).toNatClampNeg) &&& 31)) - 1 then some ((0 : Int32), pI D' 88 2 (cI 0)) else aBi (f_X12_isIn (cI b) 0 23 (pI D' 88 2 (cI 0))) _) _
          rw [m5']
          by_cases c2 : snN a (T 0 5).toNat = ((1 : Int32) <<< (cI (T 0 5) &&& 31)) - 1
          · rw [if_neg (fun z => z c2)]
            have x2 : ¬ (0 ≤ b ∧ b < 24) := fun z => x ⟨⟨by omega, c1, c2⟩, z⟩
            simp (disch := omega) only [e_bi, e_bind, e_let, e_tr, e_tl, cLm1, cLm2, cL0, cL1, cL2, cL3, cL4, cL5, cL6, cL7, cL8, cL9, cL10, cL11, cL12, cL13, cL14, cL15, cL16, cL17, cL18, cL19, cL20, cL21, cL22, cL23, cL24, cL25, cL29, cL30, cL31, cL32, cL36, cL48, cL50, cL51, cL52, cL64, cL99, cL100, cL700, cL1000, cL9999, cL10000, cI_add, cI_sub, cI_mul, cI_neg, cI_lt, cI_le, cI_eq, ne_eq, ifp, ifn, bI_p, bI_n, aZ_0, aZ_1, aZ_b, e_gdt, e_ifT, e_ifF, not_true_eq_false, not_false_eq_true, e_gd, isIn_eq]
            exact fin
          · rw [if_pos c2]
            exact fin
        · rw [if_pos (show cI (dgN a (T 0 5).toNat) ≠ 0 by show ¬ (cI _ = cI 0); rw [cI_eq (by omega) (by omega) (by omega) (by omega)]; exact c1)]
          exact fin
end FED
