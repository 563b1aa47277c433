/-! feed -/
section TAP
def wdS (x : Int32) : Nat → Int32
  | 0 => x >>> ((24 : Int32) &&& 31)
  | 1 => x >>> ((16 : Int32) &&& 31)
  | 2 => x >>> ((8 : Int32) &&& 31)
  | _ => x >>> ((0 : Int32) &&& 31)
def byN (x : Int32) (j : Nat) : Int := ((wdS x j).toBitVec.toNat % 256 : Nat)
theorem and255 (x : Int32) : x &&& 255 = cI ((x.toBitVec.toNat % 256 : Nat) : Int) := by
  refine bv_of _ ?_
  rw [Int32.toBitVec_and, BitVec.toNat_and]
  exact Nat.and_two_pow_sub_one_eq_mod _ 8
theorem lo8 (y : Int32) : y.toInt8.toInt32 = cI (bSg ((y.toBitVec.toNat % 256 : Nat) : Int)) := by
  rw [← Int32.toInt_inj, Int8.toInt_toInt32, Int32.toInt_toInt8]
  have e : y.toInt = y.toBitVec.toInt := rfl
  have e2 := BitVec.toInt_eq_toNat_cond y.toBitVec
  have e3 : y.toInt % 256 = ((y.toBitVec.toNat % 256 : Nat) : Int) := by
    rw [e, e2]
    split <;> omega
  have b : 0 ≤ ((y.toBitVec.toNat % 256 : Nat) : Int) ∧ ((y.toBitVec.toNat % 256 : Nat) : Int) < 256 := by omega
  unfold bSg
  rw [cI_toInt (by split <;> omega) (by split <;> omega)]
  show y.toInt.bmod 256 = _
  unfold Int.bmod
  rw [show y.toInt % ((256 : Nat) : Int) = ((y.toBitVec.toNat % 256 : Nat) : Int) from e3]
  show (if _ < (256 + 1) / 2 then _ else _) = _
  by_cases c : ((y.toBitVec.toNat % 256 : Nat) : Int) < 128
  · rw [if_pos c, if_pos (by omega)]
  · rw [if_neg c, if_neg (by omega)]; rfl
theorem lo_eq (x : BitVec 32) {s : Nat} (hs : s ≤ 24) : (x >>> s).toNat % 256 = (BitVec.sshiftRight x s).toNat % 256 := by
  have h : (x >>> s) &&& 255#32 = (BitVec.sshiftRight x s) &&& 255#32 := by
    refine BitVec.eq_of_getLsbD_eq (fun i hi => ?_)
    rw [BitVec.getLsbD_and, BitVec.getLsbD_and, BitVec.getLsbD_ushiftRight, BitVec.getLsbD_sshiftRight]
    by_cases c : i < 8
    · rw [if_pos (by omega)]
      simp [show ¬ (32 ≤ i) by omega]
    · have h : ∀ i : Nat, i < 32 → ¬ i < 8 → (255#32).getLsbD i = false := by decide
      rw [h i hi c, Bool.and_false, Bool.and_false]
  have h2 := congrArg BitVec.toNat h
  rw [BitVec.toNat_and, BitVec.toNat_and] at h2
  rw [← Nat.and_two_pow_sub_one_eq_mod _ 8, ← Nat.and_two_pow_sub_one_eq_mod _ 8]
  exact h2
theorem by_c (x : Int32) {j : Nat} (hj : j < 4) : (((x.toUInt32 >>> ((cI (24 - 8 * (j : Int))).toUInt32 &&& Int32.toUInt32 31)).toInt32).toInt8.toInt32).toInt8.toInt32 = cI (bSg (byN x j)) ∧ (x >>> (cI (24 - 8 * (j : Int)) &&& 31)) &&& 255 = cI (byN x j) ∧ 0 ≤ byN x j ∧ byN x j < 256 := by
  refine ⟨?_, ?_, by unfold byN; omega, by unfold byN; omega⟩
  · rw [Int8.toInt8_toInt32, lo8]
    unfold byN
    have e : j = 0 ∨ j = 1 ∨ j = 2 ∨ j = 3 := by omega
    rcases e with rfl | rfl | rfl | rfl
    · have h := lo_eq x.toBitVec (s := 24) (by omega)
      exact congrArg (fun z : Nat => cI (bSg (z : Int))) h
    · have h := lo_eq x.toBitVec (s := 16) (by omega)
      exact congrArg (fun z : Nat => cI (bSg (z : Int))) h
    · have h := lo_eq x.toBitVec (s := 8) (by omega)
      exact congrArg (fun z : Nat => cI (bSg (z : Int))) h
    · have h := lo_eq x.toBitVec (s := 0) (by omega)
      exact congrArg (fun z : Nat => cI (bSg (z : Int))) h
  · rw [and255]
    unfold byN
    have e : j = 0 ∨ j = 1 ∨ j = 2 ∨ j = 3 := by omega
    rcases e with rfl | rfl | rfl | rfl <;> rfl
theorem append_ok {D : aD} {v : Int32} {L : Int} (h0 : gI D 0 1 = cI L) (h1 : 0 ≤ L) (h2 : L ≤ 696) : Ok (f_X11_append v D) (fun D' => gI D' 0 1 = cI (L + 4) ∧ (∀ j : Nat, j < 4 → gI D' 1 (L.toNat + j) = cI (bSg (byN v j))) ∧ ∀ k j : Nat, ¬ (k = 0 ∧ j = 1) → ¬ (k = 1 ∧ L.toNat ≤ j) → gI D' k j = gI D k j) := by
  unfold f_X11_append J_X11_append_3
  refine ok_bindI (ok_lp (fun i t => t.1 = cI (24 - 8 * (i : Int)) ∧ gI t.2 0 1 = cI (L + i) ∧ (∀ j : Nat, j < i → gI t.2 1 (L.toNat + j) = cI (bSg (byN v j))) ∧ ∀ k j : Nat, ¬ (k = 0 ∧ j = 1) → ¬ (k = 1 ∧ L.toNat ≤ j) → gI t.2 k j = gI D k j) 4 (by omega) ⟨rfl, by rw [h0]; simp, fun j h => absurd h (by omega), fun _ _ _ _ => rfl⟩ ?_)
  rintro i ⟨x, D1⟩ hi ⟨rfl, g1, g2, g3⟩
  show Ok (B_X11_append_3 v (cI (24 - 8 * (i : Int))) D1) _
  unfold B_X11_append_3
  by_cases c : i < 4
  · have b := by_c v c
    rw [b.1]
    have e : (L + (i : Int)).toNat = L.toNat + i := by omega
    simp (disch := omega) only [e_bi, e_bind, e_let, e_tr, e_tl, cLm1, cLm2, cL0, cL1, cL2, cL3, cL4, cL5, cL6, cL7, cL8, cL9, cL10, cL11, cL12, cL13, cL14, cL15, cL16, cL17, cL18, cL19, cL20, cL21, cL22, cL23, cL24, cL25, cL29, cL30, cL31, cL32, cL36, cL48, cL50, cL51, cL52, cL64, cL99, cL100, cL700, cL1000, cL9999, cL10000, cI_add, cI_sub, cI_mul, cI_neg, cI_lt, cI_le, cI_eq, ne_eq, ifp, ifn, bI_p, bI_n, aZ_0, aZ_1, aZ_b, e_gdt, e_ifT, e_ifF, not_true_eq_false, not_false_eq_true, e_gd, cLm8, cL700, g1, cI_inT, cI_nat, e, gI_fr]
    refine ok_someI (Or.inl ⟨_, rfl, c, by rw [show (24 : Int) - 8 * (i : Int) + -8 = 24 - 8 * ((i + 1 : Nat) : Int) by omega], ?_, fun j hj => ?_, fun k j a b => ?_⟩)
    · show gI (pI (pI D1 1 _ _) 0 1 _) 0 1 = cI (L + ((i + 1 : Nat) : Int))
      rw [gI_eq, show L + (i : Int) + 1 = L + ((i + 1 : Nat) : Int) by omega]
    · show gI (pI (pI D1 1 (L.toNat + i) _) 0 1 _) 1 (L.toNat + j) = _
      rw [gI_fr (by omega)]
      by_cases y : j = i
      · subst y; exact gI_eq
      · rw [gI_fr (by omega)]; exact g2 j (by omega)
    · show gI (pI (pI D1 1 (L.toNat + i) _) 0 1 _) k j = _
      rw [gI_fr (by omega), gI_fr (by omega)]; exact g3 k j a b
  · obtain rfl : i = 4 := by omega
    simp (disch := omega) only [e_bi, e_bind, e_let, e_tr, e_tl, cLm1, cLm2, cL0, cL1, cL2, cL3, cL4, cL5, cL6, cL7, cL8, cL9, cL10, cL11, cL12, cL13, cL14, cL15, cL16, cL17, cL18, cL19, cL20, cL21, cL22, cL23, cL24, cL25, cL29, cL30, cL31, cL32, cL36, cL48, cL50, cL51, cL52, cL64, cL99, cL100, cL700, cL1000, cL9999, cL10000, cI_add, cI_sub, cI_mul, cI_neg, cI_lt, cI_le, cI_eq, ne_eq, ifp, ifn, bI_p, bI_n, aZ_0, aZ_1, aZ_b, e_gdt, e_ifT, e_ifF, not_true_eq_false, not_false_eq_true, e_gd]
    exact ok_someI (Or.inr ⟨_, rfl, ok_someI ⟨g1, g2, g3⟩⟩)
def wrN (v1 v2 v3 v4 v5 : Int32) (k : Nat) : Int32 := if k < 4 then v1 else if k < 8 then v2 else if k < 12 then v3 else if k < 16 then v4 else v5
def fdB (B : Nat → Int) (L : Int) (v1 v2 v3 v4 v5 : Int32) (j : Nat) : Int := if (j : Int) < L then B j else byN (wrN v1 v2 v3 v4 v5 (j - L.toNat)) ((j - L.toNat) % 4)
theorem feed_cls {D : aD} {v1 v2 v3 v4 v5 : Int32} {L : Int} (h0 : gI D 0 1 = cI L) (h1 : 0 ≤ L) (h2 : L ≤ 680) : Ok (f_X11_feed v1 v2 v3 v4 v5 D) (fun r => r.1 = cI (L + 20) ∧ gI r.2 0 1 = cI (L + 20) ∧ (∀ j : Nat, j < 20 → gI r.2 1 (L.toNat + j) = cI (bSg (byN (wrN v1 v2 v3 v4 v5 j) (j % 4)))) ∧ ∀ k j : Nat, ¬ (k = 0 ∧ j = 1) → ¬ (k = 1 ∧ L.toNat ≤ j) → gI r.2 k j = gI D k j) := by
  unfold f_X11_feed
  simp (disch := omega) only [e_bi, e_bind, e_let, e_tr, e_tl, cLm1, cLm2, cL0, cL1, cL2, cL3, cL4, cL5, cL6, cL7, cL8, cL9, cL10, cL11, cL12, cL13, cL14, cL15, cL16, cL17, cL18, cL19, cL20, cL21, cL22, cL23, cL24, cL25, cL29, cL30, cL31, cL32, cL36, cL48, cL50, cL51, cL52, cL64, cL99, cL100, cL700, cL1000, cL9999, cL10000, cI_add, cI_sub, cI_mul, cI_neg, cI_lt, cI_le, cI_eq, ne_eq, ifp, ifn, bI_p, bI_n, aZ_0, aZ_1, aZ_b, e_gdt, e_ifT, e_ifF, not_true_eq_false, not_false_eq_true, e_gd, h0, cL700]
  refine ok_bindI ((append_ok h0 h1 (by omega)).mono fun D1 a => ok_bindI ((append_ok a.1 (by omega) (by omega)).mono fun D2 b => ok_bindI ((append_ok b.1 (by omega) (by omega)).mono fun D3 c => ok_bindI ((append_ok c.1 (by omega) (by omega)).mono fun D4 d => ok_bindI ((append_ok d.1 (by omega) (by omega)).mono fun D5 e => ok_someI ?_)))))
  have z : L + 4 + 4 + 4 + 4 + 4 = L + 20 := by omega
  refine ⟨by rw [← z]; exact e.1, by rw [← z]; exact e.1, fun j hj => ?_, fun k j x y => ?_⟩
  · show gI D5 1 (L.toNat + j) = _
    by_cases j1 : j < 4
    · rw [e.2.2 _ _ (by omega) (by omega), d.2.2 _ _ (by omega) (by omega), c.2.2 _ _ (by omega) (by omega), b.2.2 _ _ (by omega) (by omega), a.2.1 j j1]
      unfold wrN
      rw [if_pos j1, Nat.mod_eq_of_lt j1]
    · by_cases j2 : j < 8
      · have h := b.2.1 (j - 4) (by omega)
        rw [show (L + 4).toNat + (j - 4) = L.toNat + j by omega] at h
        rw [e.2.2 _ _ (by omega) (by omega), d.2.2 _ _ (by omega) (by omega), c.2.2 _ _ (by omega) (by omega), h]
        unfold wrN
        rw [if_neg j1, if_pos j2, show j % 4 = j - 4 by omega]
      · by_cases j3 : j < 12
        · have h := c.2.1 (j - 8) (by omega)
          rw [show (L + 4 + 4).toNat + (j - 8) = L.toNat + j by omega] at h
          rw [e.2.2 _ _ (by omega) (by omega), d.2.2 _ _ (by omega) (by omega), h]
          unfold wrN
          rw [if_neg j1, if_neg j2, if_pos j3, show j % 4 = j - 8 by omega]
        · by_cases j4 : j < 16
          · have h := d.2.1 (j - 12) (by omega)
            rw [show (L + 4 + 4 + 4).toNat + (j - 12) = L.toNat + j by omega] at h
            rw [e.2.2 _ _ (by omega) (by omega), h]
            unfold wrN
            rw [if_neg j1, if_neg j2, if_neg j3, if_pos j4, show j % 4 = j - 12 by omega]
          · have h := e.2.1 (j - 16) (by omega)
            rw [show (L + 4 + 4 + 4 + 4).toNat + (j - 16) = L.toNat + j by omega] at h
            rw [h]
            unfold wrN
            rw [if_neg j1, if_neg j2, if_neg j3, if_neg j4, show j % 4 = j - 16 by omega]
  · show gI D5 k j = _
    rw [e.2.2 k j x (by omega), d.2.2 k j x (by omega), c.2.2 k j x (by omega), b.2.2 k j x (by omega), a.2.2 k j x (by omega)]
theorem feed_mod {D : aD} {v1 v2 v3 v4 v5 : Int32} {L : Int} (h0 : gI D 88 18 = cI L) (h1 : 0 ≤ L) (h2 : L ≤ 680) : Ok (J_X12_feed_23 v1 v2 v3 v4 v5 0 D) (fun r => r.1 = cI (L + 20) ∧ gI r.2 88 18 = cI (L + 20) ∧ (∀ j : Nat, j < 20 → gI r.2 105 (L.toNat + j) = cI (byN (wrN v1 v2 v3 v4 v5 j) (j % 4))) ∧ ∀ k j : Nat, ¬ (k = 88 ∧ j = 18) → ¬ (k = 105 ∧ L.toNat ≤ j) → gI r.2 k j = gI D k j) := by
  unfold J_X12_feed_23
  refine ok_bindI (ok_lp (fun i t => t.1 = cI (i : Int) ∧ gI t.2 88 18 = cI (L + i) ∧ (∀ j : Nat, j < i → gI t.2 105 (L.toNat + j) = cI (byN (wrN v1 v2 v3 v4 v5 j) (j % 4))) ∧ ∀ k j : Nat, ¬ (k = 88 ∧ j = 18) → ¬ (k = 105 ∧ L.toNat ≤ j) → gI t.2 k j = gI D k j) 20 (by omega) ⟨rfl, by rw [h0]; simp, fun j h => absurd h (by omega), fun _ _ _ _ => rfl⟩ ?_)
  rintro i ⟨x, D1⟩ hi ⟨rfl, g1, g2, g3⟩
  show Ok (B_X12_feed_23 v1 v2 v3 v4 v5 (cI (i : Int)) D1) _
  by_cases c : i < 20
  · have st : ∀ t0 : Int32, t0 = wrN v1 v2 v3 v4 v5 i → Ok (J_X12_feed_76 v1 v2 v3 v4 v5 (cI (i : Int)) t0 D1) (fun r => (∃ s', r = .inl s' ∧ i < 20 ∧ (fun (i : Nat) (t : Int32 × aD) => t.1 = cI (i : Int) ∧ gI t.2 88 18 = cI (L + i) ∧ (∀ j : Nat, j < i → gI t.2 105 (L.toNat + j) = cI (byN (wrN v1 v2 v3 v4 v5 j) (j % 4))) ∧ ∀ k j : Nat, ¬ (k = 88 ∧ j = 18) → ¬ (k = 105 ∧ L.toNat ≤ j) → gI t.2 k j = gI D k j) (i + 1) s') ∨ ∃ q, r = .inr q ∧ Ok (J_X12_feed_120 q) (fun r => r.1 = cI (L + 20) ∧ gI r.2 88 18 = cI (L + 20) ∧ (∀ j : Nat, j < 20 → gI r.2 105 (L.toNat + j) = cI (byN (wrN v1 v2 v3 v4 v5 j) (j % 4))) ∧ ∀ k j : Nat, ¬ (k = 88 ∧ j = 18) → ¬ (k = 105 ∧ L.toNat ≤ j) → gI r.2 k j = gI D k j)) := by
      rintro t0 rfl
      have b := by_c (wrN v1 v2 v3 v4 v5 i) (j := i % 4) (by omega)
      have e : (L + (i : Int)).toNat = L.toNat + i := by omega
      have e4 : ((i : Int)) % 4 = ((i % 4 : Nat) : Int) := by omega
      have ex : (24 : Int32) - 8 * (cI (i : Int) - cI (i : Int) / 4 * 4) = cI (24 - 8 * ((i % 4 : Nat) : Int)) := by
        rw [cL24, cL8, cL4, cI_rem (by omega) (by omega) (by omega) (by omega), cI_mul, cI_sub, e4]
      unfold J_X12_feed_76
      rw [ex, b.2.1]
      simp (disch := omega) only [e_bi, e_bind, e_let, e_tr, e_tl, cLm1, cLm2, cL0, cL1, cL2, cL3, cL4, cL5, cL6, cL7, cL8, cL9, cL10, cL11, cL12, cL13, cL14, cL15, cL16, cL17, cL18, cL19, cL20, cL21, cL22, cL23, cL24, cL25, cL29, cL30, cL31, cL32, cL36, cL48, cL50, cL51, cL52, cL64, cL99, cL100, cL700, cL1000, cL9999, cL10000, cI_add, cI_sub, cI_mul, cI_neg, cI_lt, cI_le, cI_eq, ne_eq, ifp, ifn, bI_p, bI_n, aZ_0, aZ_1, aZ_b, e_gdt, e_ifT, e_ifF, not_true_eq_false, not_false_eq_true, e_gd, g1, cI_inT, cI_nat, e, gI_fr]
      refine ok_someI (Or.inl ⟨_, rfl, c, rfl, ?_, fun j hj => ?_, fun k j a b => ?_⟩)
      · show gI (pI (pI D1 105 _ _) 88 18 _) 88 18 = cI (L + ((i + 1 : Nat) : Int))
        rw [gI_eq, show L + (i : Int) + 1 = L + ((i + 1 : Nat) : Int) by omega]
      · show gI (pI (pI D1 105 (L.toNat + i) _) 88 18 _) 105 (L.toNat + j) = _
        rw [gI_fr (by omega)]
        by_cases y : j = i
        · subst y; exact gI_eq
        · rw [gI_fr (by omega)]; exact g2 j (by omega)
      · show gI (pI (pI D1 105 (L.toNat + i) _) 88 18 _) k j = _
        rw [gI_fr (by omega), gI_fr (by omega)]; exact g3 k j a b
    unfold B_X12_feed_23
    by_cases j1 : i < 4
    · simp (disch := omega) only [cL20, cL4, cI_le, ifn]
      exact st _ (by unfold wrN; rw [if_pos j1])
    · by_cases j2 : i < 8
      · simp (disch := omega) only [cL20, cL4, cL8, cI_le, ifn, ifp]
        exact st _ (by unfold wrN; rw [if_neg j1, if_pos j2])
      · by_cases j3 : i < 12
        · simp (disch := omega) only [cL20, cL4, cL8, cL12, cI_le, ifn, ifp]
          exact st _ (by unfold wrN; rw [if_neg j1, if_neg j2, if_pos j3])
        · by_cases j4 : i < 16
          · simp (disch := omega) only [cL20, cL4, cL8, cL12, cL16, cI_le, ifn, ifp]
            exact st _ (by unfold wrN; rw [if_neg j1, if_neg j2, if_neg j3, if_pos j4])
          · simp (disch := omega) only [cL20, cL4, cL8, cL12, cL16, cI_le, ifn, ifp]
            exact st _ (by unfold wrN; rw [if_neg j1, if_neg j2, if_neg j3, if_neg j4])
  · obtain rfl : i = 20 := by omega
    unfold B_X12_feed_23
    simp (disch := omega) only [cL20, cI_le, ifp]
    refine ok_someI (Or.inr ⟨_, rfl, ?_⟩)
    unfold J_X12_feed_120
    exact ok_someI ⟨g1, g1, g2, g3⟩
theorem step_0 {D : aD} {v1 v2 v3 v4 v5 : Int32} (h : lawP D) : Ok2 (f_law_0 v1 v2 v3 v4 v5 D) (fun r D => r = 1 ∧ lawP D) := by
  obtain ⟨T, K, L, B, H⟩ := h
  have ⟨hp, hn, hC, hN, hM, hR, hK, hT, hF, hO⟩ := H
  obtain ⟨l1, l2, l3, l4, l5⟩ := hT
  unfold f_law_0
  by_cases c : L ≤ 680
  · refine eq_step (fc := f_X11_feed v1 v2 v3 v4 v5 D) (fm := fun D => f_X12_feed v1 v2 v3 v4 v5 D) (P := lawP) (C := fun D' => gI D' 0 1 = cI (L + 20) ∧ (∀ j : Nat, j < 20 → gI D' 1 (L.toNat + j) = cI (bSg (byN (wrN v1 v2 v3 v4 v5 j) (j % 4)))) ∧ ∀ k j : Nat, ¬ (k = 0 ∧ j = 1) → ¬ (k = 1 ∧ L.toNat ≤ j) → gI D' k j = gI D k j) (cI (L + 20)) ((feed_cls l1 l3 c).mono fun r q => ⟨q.1, q.2⟩) ?_
    rintro D1 ⟨d1, d2, d3⟩
    have m18 : gI (pI D1 88 2 (cI 0)) 88 18 = cI L := by rw [gI_fr (by omega), d3 _ _ (by omega) (by omega)]; exact l2
    unfold f_X12_feed
    simp (disch := omega) only [e_bi, e_bind, e_let, e_tr, e_tl, cLm1, cLm2, cL0, cL1, cL2, cL3, cL4, cL5, cL6, cL7, cL8, cL9, cL10, cL11, cL12, cL13, cL14, cL15, cL16, cL17, cL18, cL19, cL20, cL21, cL22, cL23, cL24, cL25, cL29, cL30, cL31, cL32, cL36, cL48, cL50, cL51, cL52, cL64, cL99, cL100, cL700, cL1000, cL9999, cL10000, cI_add, cI_sub, cI_mul, cI_neg, cI_lt, cI_le, cI_eq, ne_eq, ifp, ifn, bI_p, bI_n, aZ_0, aZ_1, aZ_b, e_gdt, e_ifT, e_ifF, not_true_eq_false, not_false_eq_true, e_gd, cL700, m18]
    refine (feed_mod m18 l3 c).mono fun r q => ⟨q.1, T, K, L + 20, fdB B L v1 v2 v3 v4 v5, ?_⟩
    obtain ⟨-, q1, q2, q3⟩ := q
    have e : ∀ k j : Nat, ¬ (k = 0 ∧ j = 1) → ¬ (k = 1 ∧ L.toNat ≤ j) → ¬ (k = 88 ∧ (j = 18 ∨ j = 2)) → ¬ (k = 105 ∧ L.toNat ≤ j) → gI r.2 k j = gI D k j := fun k j a b c d => by
      rw [q3 k j (by omega) (by omega), gI_fr (by omega)]; exact d3 k j a b
    refine ⟨hp, hn, hC.fr hp (fun k j a => e _ _ (by omega) (by omega) (by omega) (by omega)), aNow.fr hN (fun j => e _ _ (by omega) (by omega) (by omega) (by omega)) (fun j => e _ _ (by omega) (by omega) (by omega) (by omega)) (fun r j hr => e _ _ (by omega) (by omega) (by omega) (by omega)) (fun j => e _ _ (by omega) (by omega) (by omega) (by omega)) (fun j hj => e _ _ (by omega) (by omega) (by omega) (by omega)), hM.fr (fun k j a b => e _ _ (by omega) (by omega) (by omega) (by omega)) (e _ _ (by omega) (by omega) (by omega) (by omega)), aNow.fr hR (fun j => e _ _ (by omega) (by omega) (by omega) (by omega)) (fun j => e _ _ (by omega) (by omega) (by omega) (by omega)) (fun r j hr => e _ _ (by omega) (by omega) (by omega) (by omega)) (fun j => e _ _ (by omega) (by omega) (by omega) (by omega)) (fun j hj => e _ _ (by omega) (by omega) (by omega) (by omega)), hK.fr (fun k j a => e _ _ (by omega) (by omega) (by omega) (by omega)), ⟨?_, q1, by omega, by omega, fun j hj => ?_⟩, ?_, hO.fr (fun k j a => e k j (by omega) (by omega) (by omega) (by omega))⟩
    · rw [q3 _ _ (by omega) (by omega), gI_fr (by omega)]; exact d1
    · unfold fdB
      by_cases y : (j : Int) < L
      · obtain ⟨b1, b2, b3, b4⟩ := l5 j y
        rw [if_pos y]
        exact ⟨b1, b2, (e _ _ (by omega) (by omega) (by omega) (by omega)).trans b3, (e _ _ (by omega) (by omega) (by omega) (by omega)).trans b4⟩
      · rw [if_neg y]
        have bb := by_c (wrN v1 v2 v3 v4 v5 (j - L.toNat)) (j := (j - L.toNat) % 4) (by omega)
        have x1 := d2 (j - L.toNat) (by omega)
        have x2 := q2 (j - L.toNat) (by omega)
        rw [show L.toNat + (j - L.toNat) = j by omega] at x1 x2
        exact ⟨bb.2.2.1, bb.2.2.2, by rw [q3 _ _ (by omega) (by omega), gI_fr (by omega)]; exact x1, x2⟩
    · rw [e 0 2 (by omega) (by omega) (by omega) (by omega), e 88 27 (by omega) (by omega) (by omega) (by omega)]
      exact hF
  · refine eq_step (fc := f_X11_feed v1 v2 v3 v4 v5 D) (fm := fun D => f_X12_feed v1 v2 v3 v4 v5 D) (P := lawP) (C := fun D' => D' = D) (cI (-1)) ?_ ?_
    · unfold f_X11_feed
      simp (disch := omega) only [e_bi, e_bind, e_let, e_tr, e_tl, cLm1, cLm2, cL0, cL1, cL2, cL3, cL4, cL5, cL6, cL7, cL8, cL9, cL10, cL11, cL12, cL13, cL14, cL15, cL16, cL17, cL18, cL19, cL20, cL21, cL22, cL23, cL24, cL25, cL29, cL30, cL31, cL32, cL36, cL48, cL50, cL51, cL52, cL64, cL99, cL100, cL700, cL1000, cL9999, cL10000, cI_add, cI_sub, cI_mul, cI_neg, cI_lt, cI_le, cI_eq, ne_eq, ifp, ifn, bI_p, bI_n, aZ_0, aZ_1, aZ_b, e_gdt, e_ifT, e_ifF, not_true_eq_false, not_false_eq_true, e_gd, cL700, l1]
      exact ok_someI ⟨rfl, rfl⟩
    · rintro D' rfl
      unfold f_X12_feed
      simp (disch := omega) only [e_bi, e_bind, e_let, e_tr, e_tl, cLm1, cLm2, cL0, cL1, cL2, cL3, cL4, cL5, cL6, cL7, cL8, cL9, cL10, cL11, cL12, cL13, cL14, cL15, cL16, cL17, cL18, cL19, cL20, cL21, cL22, cL23, cL24, cL25, cL29, cL30, cL31, cL32, cL36, cL48, cL50, cL51, cL52, cL64, cL99, cL100, cL700, cL1000, cL9999, cL10000, cI_add, cI_sub, cI_mul, cI_neg, cI_lt, cI_le, cI_eq, ne_eq, ifp, ifn, bI_p, bI_n, aZ_0, aZ_1, aZ_b, e_gdt, e_ifT, e_ifF, not_true_eq_false, not_false_eq_true, e_gd, cL700, gI_fr, l2]
      exact ok_someI ⟨rfl, T, K, L, B, H.code⟩
end TAP
