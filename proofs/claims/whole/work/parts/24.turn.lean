/-! turn, nose, forget, image, restore -/
section TRN
theorem CP.srt {D : aD} {T : aT} (h : CP D 2 T) {s : Nat} (hs : (s : Int) < T 0 2) : gI D (15 + s) 0 = cI (T 1 s) ∧ gI D (15 + s) 1 = cI (T 2 s) ∧ gI D (15 + s) 2 = cI (T 3 s) ∧ gI D (15 + s) 3 = cI (T 4 s) ∧ gI D (15 + s) 4 = cI (T 5 s) ∧ gI D (15 + s) 5 = cI (T 6 s) ∧ gI D (15 + s) 6 = cI (T 7 s) :=
  have k := h.2.2.2.2.1
  ⟨k 0 s (by omega) hs, k 1 s (by omega) hs, k 2 s (by omega) hs, k 3 s (by omega) hs, k 4 s (by omega) hs, k 5 s (by omega) hs, k 6 s (by omega) hs⟩
theorem aZ_c {h : Int} (h1 : 0 ≤ h) (h2 : h ≤ 1) : aZ (cI h) = true := by
  have e : h = 0 ∨ h = 1 := by omega
  rcases e with rfl | rfl <;> decide
theorem isHerb_eq {D : aD} {T : aT} {a : Int} (hp : TOKp T) (hC : CP D 2 T) (h1 : 0 ≤ a) (h2 : a < T 0 4) : f_X6_isHerb (cI a) D = some (cI (T 7 (T 8 a.toNat).toNat), D) := by
  have hq := hp.1
  have h8 := hp.2.2.2.1 a.toNat (by omega)
  have h7 := hp.2.2.1 (T 8 a.toNat).toNat (by omega)
  have q6 := (CP.two hC).2.2.2.2.2.1
  obtain ⟨-, -, -, -, -, -, s7⟩ := CP.srt hC (s := (T 8 a.toNat).toNat) (by omega)
  unfold f_X6_isHerb
  simp (disch := omega) only [e_bi, e_bind, e_let, e_tr, e_tl, cLm1, cLm2, cL0, cL1, cL2, cL3, cL4, cL5, cL6, cL7, cL8, cL9, cL10, cL11, cL12, cL13, cL14, cL15, cL16, cL17, cL18, cL19, cL20, cL21, cL22, cL23, cL24, cL25, cL29, cL30, cL31, cL32, cL36, cL48, cL50, cL51, cL52, cL64, cL99, cL100, cL700, cL1000, cL9999, cL10000, cI_add, cI_sub, cI_mul, cI_neg, cI_lt, cI_le, cI_eq, ne_eq, ifp, ifn, bI_p, bI_n, aZ_0, aZ_1, aZ_b, e_gdt, e_ifT, e_ifF, not_true_eq_false, not_false_eq_true, e_gd, cI_inT, cI_nat, q6, s7, aZ_c]
def canT (T : aT) (a b : Int) : Prop := b = 0 ∨ b = 1 ∨ (b = 2 ∧ T 7 (T 8 a.toNat).toNat = 1)
theorem c_turn_no {D : aD} {T : aT} {a b : Int} (hp : TOKp T) (hC : CP D 2 T) (h1 : -2147483648 ≤ a) (h2 : a < 2147483648) (h3 : -2147483648 ≤ b) (h4 : b < 2147483648) (c : ¬ (0 ≤ a ∧ a < T 0 4)) : f_X11_turn (cI a) (cI b) D = some (.inl "java/util/NoSuchElementException", D) := by
  have hq := hp.1
  obtain ⟨q1, q2, q3, -⟩ := CP.two hC
  unfold f_X11_turn
  simp (disch := omega) only [e_bi, e_bind, e_let, e_tr, e_tl, cLm1, cLm2, cL0, cL1, cL2, cL3, cL4, cL5, cL6, cL7, cL8, cL9, cL10, cL11, cL12, cL13, cL14, cL15, cL16, cL17, cL18, cL19, cL20, cL21, cL22, cL23, cL24, cL25, cL29, cL30, cL31, cL32, cL36, cL48, cL50, cL51, cL52, cL64, cL99, cL100, cL700, cL1000, cL9999, cL10000, cI_add, cI_sub, cI_mul, cI_neg, cI_lt, cI_le, cI_eq, ne_eq, ifp, ifn, bI_p, bI_n, aZ_0, aZ_1, aZ_b, e_gdt, e_ifT, e_ifF, not_true_eq_false, not_false_eq_true, e_gd, q3, isBelow_eq, need_0]
theorem c_turn_can {D : aD} {T : aT} {a b : Int} (hp : TOKp T) (hC : CP D 2 T) (hN : CNow D T) (c : 0 ≤ a ∧ a < T 0 4) (hc : canT T a b) : f_X11_turn (cI a) (cI b) D = some (.inr (cI (T 13 a.toNat)), pI D 41 a.toNat (cI b)) := by
  have hq := hp.1
  obtain ⟨q1, q2, q3, -⟩ := CP.two hC
  have r1 := (CNow.two hN).1
  unfold f_X11_turn J_X11_turn_39 J_X11_turn_43 J_X11_turn_44
  rcases hc with rfl | rfl | ⟨rfl, hh⟩ <;>
  simp (disch := omega) only [e_bi, e_bind, e_let, e_tr, e_tl, cLm1, cLm2, cL0, cL1, cL2, cL3, cL4, cL5, cL6, cL7, cL8, cL9, cL10, cL11, cL12, cL13, cL14, cL15, cL16, cL17, cL18, cL19, cL20, cL21, cL22, cL23, cL24, cL25, cL29, cL30, cL31, cL32, cL36, cL48, cL50, cL51, cL52, cL64, cL99, cL100, cL700, cL1000, cL9999, cL10000, cI_add, cI_sub, cI_mul, cI_neg, cI_lt, cI_le, cI_eq, ne_eq, ifp, ifn, bI_p, bI_n, aZ_0, aZ_1, aZ_b, e_gdt, e_ifT, e_ifF, not_true_eq_false, not_false_eq_true, e_gd, q3, isBelow_eq, need_1, r1, cI_inT, cI_nat, isHerb_eq hp hC c.1 c.2]
theorem c_turn_cant {D : aD} {T : aT} {a b : Int} (hp : TOKp T) (hC : CP D 2 T) (hN : CNow D T) (h3 : -2147483648 ≤ b) (h4 : b < 2147483648) (c : 0 ≤ a ∧ a < T 0 4) (hc : ¬ canT T a b) : f_X11_turn (cI a) (cI b) D = some (.inr (cI (-1)), pI D 47 1 (cI (T 20 1 + 1))) := by
  have hq := hp.1
  have h8 := hp.2.2.2.1 a.toNat (by omega)
  have h7 := hp.2.2.1 (T 8 a.toNat).toNat (by omega)
  obtain ⟨q1, q2, q3, -⟩ := CP.two hC
  obtain ⟨-, -, -, -, -, -, r1, -⟩ := CNow.two hN
  unfold canT at hc
  unfold f_X11_turn J_X11_turn_39 J_X11_turn_43 J_X11_turn_44
  by_cases e : b = 2
  · subst e
    simp (disch := omega) only [e_bi, e_bind, e_let, e_tr, e_tl, cLm1, cLm2, cL0, cL1, cL2, cL3, cL4, cL5, cL6, cL7, cL8, cL9, cL10, cL11, cL12, cL13, cL14, cL15, cL16, cL17, cL18, cL19, cL20, cL21, cL22, cL23, cL24, cL25, cL29, cL30, cL31, cL32, cL36, cL48, cL50, cL51, cL52, cL64, cL99, cL100, cL700, cL1000, cL9999, cL10000, cI_add, cI_sub, cI_mul, cI_neg, cI_lt, cI_le, cI_eq, ne_eq, ifp, ifn, bI_p, bI_n, aZ_0, aZ_1, aZ_b, e_gdt, e_ifT, e_ifF, not_true_eq_false, not_false_eq_true, e_gd, cX0, cX1, cX2, cX3, cX4, cX5, cX6, cX7, cX8, cX9, cX10, cX11, cX12, cX13, cX14, cX15, cX16, cX17, cX18, cX19, cX20, cX21, cX22, cX23, cX24, cX25, cX29, cX30, cX31, cX32, cX36, Int.reduceToNat, q3, isBelow_eq, need_1, r1, cI_inT, cI_nat, isHerb_eq hp hC c.1 c.2]
  · simp (disch := omega) only [e_bi, e_bind, e_let, e_tr, e_tl, cLm1, cLm2, cL0, cL1, cL2, cL3, cL4, cL5, cL6, cL7, cL8, cL9, cL10, cL11, cL12, cL13, cL14, cL15, cL16, cL17, cL18, cL19, cL20, cL21, cL22, cL23, cL24, cL25, cL29, cL30, cL31, cL32, cL36, cL48, cL50, cL51, cL52, cL64, cL99, cL100, cL700, cL1000, cL9999, cL10000, cI_add, cI_sub, cI_mul, cI_neg, cI_lt, cI_le, cI_eq, ne_eq, ifp, ifn, bI_p, bI_n, aZ_0, aZ_1, aZ_b, e_gdt, e_ifT, e_ifF, not_true_eq_false, not_false_eq_true, e_gd, cX0, cX1, cX2, cX3, cX4, cX5, cX6, cX7, cX8, cX9, cX10, cX11, cX12, cX13, cX14, cX15, cX16, cX17, cX18, cX19, cX20, cX21, cX22, cX23, cX24, cX25, cX29, cX30, cX31, cX32, cX36, Int.reduceToNat, q3, isBelow_eq, need_1, r1, cI_inT, cI_nat]
theorem m_turn_no {D : aD} {T : aT} {a b : Int} (hp : TOKp T) (hM : MT D T) (h1 : -2147483648 ≤ a) (h2 : a < 2147483648) (c : ¬ (0 ≤ a ∧ a < T 0 4)) : f_X12_turn (cI a) (cI b) D = some (cI 0, pI (pI D 88 2 (cI 0)) 88 2 (cI 1)) := by
  have hM' : MT (pI D 88 2 (cI 0)) T := hM.fr (fun k j a b => gI_fr (by omega)) (gI_fr (by omega))
  unfold f_X12_turn
  simp (disch := omega) only [e_bi, e_bind, e_let, e_tr, e_tl, cLm1, cLm2, cL0, cL1, cL2, cL3, cL4, cL5, cL6, cL7, cL8, cL9, cL10, cL11, cL12, cL13, cL14, cL15, cL16, cL17, cL18, cL19, cL20, cL21, cL22, cL23, cL24, cL25, cL29, cL30, cL31, cL32, cL36, cL48, cL50, cL51, cL52, cL64, cL99, cL100, cL700, cL1000, cL9999, cL10000, cI_add, cI_sub, cI_mul, cI_neg, cI_lt, cI_le, cI_eq, ne_eq, ifp, ifn, bI_p, bI_n, aZ_0, aZ_1, aZ_b, e_gdt, e_ifT, e_ifF, not_true_eq_false, not_false_eq_true, e_gd, isPlant_eq hp hM' h1 h2, fail_eq]
theorem m_turn_can {D : aD} {T : aT} {a b : Int} (hp : TOKp T) (hM : MT D T) (hN : MNow D T) (c : 0 ≤ a ∧ a < T 0 4) (hc : canT T a b) : f_X12_turn (cI a) (cI b) D = some (cI (T 13 a.toNat), pI (pI D 88 2 (cI 0)) 106 a.toNat (cI b)) := by
  have hM' : MT (pI D 88 2 (cI 0)) T := hM.fr (fun k j a b => gI_fr (by omega)) (gI_fr (by omega))
  have hq := hp.1
  have h8 := hp.2.2.2.1 a.toNat (by omega)
  have h7 := hp.2.2.1 (T 8 a.toNat).toNat (by omega)
  obtain ⟨-, -, -, -, -, -, -, s7, q8, -⟩ := MT.two hM
  have r1 := (MNow.two hN).1
  unfold f_X12_turn J_X12_turn_59 J_X12_turn_47
  rcases hc with rfl | rfl | ⟨rfl, hh⟩ <;>
  simp (disch := omega) only [e_bi, e_bind, e_let, e_tr, e_tl, cLm1, cLm2, cL0, cL1, cL2, cL3, cL4, cL5, cL6, cL7, cL8, cL9, cL10, cL11, cL12, cL13, cL14, cL15, cL16, cL17, cL18, cL19, cL20, cL21, cL22, cL23, cL24, cL25, cL29, cL30, cL31, cL32, cL36, cL48, cL50, cL51, cL52, cL64, cL99, cL100, cL700, cL1000, cL9999, cL10000, cI_add, cI_sub, cI_mul, cI_neg, cI_lt, cI_le, cI_eq, ne_eq, ifp, ifn, bI_p, bI_n, aZ_0, aZ_1, aZ_b, e_gdt, e_ifT, e_ifF, not_true_eq_false, not_false_eq_true, e_gd, isPlant_eq hp hM' (a := a) (by omega) (by omega), isIn_eq, gI_fr, r1, q8, s7, cI_inT, cI_nat]
theorem m_turn_cant {D : aD} {T : aT} {a b : Int} (hp : TOKp T) (hM : MT D T) (hN : MNow D T) (h3 : -2147483648 ≤ b) (h4 : b < 2147483648) (c : 0 ≤ a ∧ a < T 0 4) (hc : ¬ canT T a b) : f_X12_turn (cI a) (cI b) D = some (cI (-1), pI (pI D 88 2 (cI 0)) 104 1 (cI (T 20 1 + 1))) := by
  have hM' : MT (pI D 88 2 (cI 0)) T := hM.fr (fun k j a b => gI_fr (by omega)) (gI_fr (by omega))
  have hq := hp.1
  have h8 := hp.2.2.2.1 a.toNat (by omega)
  have h7 := hp.2.2.1 (T 8 a.toNat).toNat (by omega)
  obtain ⟨-, -, -, -, -, -, -, s7, q8, -⟩ := MT.two hM
  obtain ⟨-, -, -, -, -, -, r1, -⟩ := MNow.two hN
  unfold canT at hc
  unfold f_X12_turn J_X12_turn_59 J_X12_turn_47
  by_cases e : b = 2
  · subst e
    simp (disch := omega) only [e_bi, e_bind, e_let, e_tr, e_tl, cLm1, cLm2, cL0, cL1, cL2, cL3, cL4, cL5, cL6, cL7, cL8, cL9, cL10, cL11, cL12, cL13, cL14, cL15, cL16, cL17, cL18, cL19, cL20, cL21, cL22, cL23, cL24, cL25, cL29, cL30, cL31, cL32, cL36, cL48, cL50, cL51, cL52, cL64, cL99, cL100, cL700, cL1000, cL9999, cL10000, cI_add, cI_sub, cI_mul, cI_neg, cI_lt, cI_le, cI_eq, ne_eq, ifp, ifn, bI_p, bI_n, aZ_0, aZ_1, aZ_b, e_gdt, e_ifT, e_ifF, not_true_eq_false, not_false_eq_true, e_gd, cX0, cX1, cX2, cX3, cX4, cX5, cX6, cX7, cX8, cX9, cX10, cX11, cX12, cX13, cX14, cX15, cX16, cX17, cX18, cX19, cX20, cX21, cX22, cX23, cX24, cX25, cX29, cX30, cX31, cX32, cX36, Int.reduceToNat, isPlant_eq hp hM' (a := a) (by omega) (by omega), isIn_eq, gI_fr, r1, q8, s7, cI_inT, cI_nat]
  · simp (disch := omega) only [e_bi, e_bind, e_let, e_tr, e_tl, cLm1, cLm2, cL0, cL1, cL2, cL3, cL4, cL5, cL6, cL7, cL8, cL9, cL10, cL11, cL12, cL13, cL14, cL15, cL16, cL17, cL18, cL19, cL20, cL21, cL22, cL23, cL24, cL25, cL29, cL30, cL31, cL32, cL36, cL48, cL50, cL51, cL52, cL64, cL99, cL100, cL700, cL1000, cL9999, cL10000, cI_add, cI_sub, cI_mul, cI_neg, cI_lt, cI_le, cI_eq, ne_eq, ifp, ifn, bI_p, bI_n, aZ_0, aZ_1, aZ_b, e_gdt, e_ifT, e_ifF, not_true_eq_false, not_false_eq_true, e_gd, cX0, cX1, cX2, cX3, cX4, cX5, cX6, cX7, cX8, cX9, cX10, cX11, cX12, cX13, cX14, cX15, cX16, cX17, cX18, cX19, cX20, cX21, cX22, cX23, cX24, cX25, cX29, cX30, cX31, cX32, cX36, Int.reduceToNat, isPlant_eq hp hM' (a := a) (by omega) (by omega), isIn_eq, gI_fr, r1, q8, s7, cI_inT, cI_nat]
/-- the reference sees its own cells alone -/
theorem MT.sI {D D' : aD} {T : aT} {k0 j0 : Nat} {x : Int32} (H : MT D T) (e : sI D' (pI D k0 j0 x)) (hk : k0 < 88) : MT D' T := H.fr (fun k j a b => (e k j).trans (gI_fr (by omega))) ((e _ _).trans (gI_fr (by omega)))
theorem step_5 {D : aD} {v1 v2 v3 v4 v5 : Int32} (h : lawP D) : Ok2 (f_law_5 v1 v2 v3 v4 v5 D) (fun r D => r = 1 ∧ lawP D) := by
  obtain ⟨T, K, L, B, H⟩ := h
  have ⟨hp, hn, hC, hN, hM, hR, _⟩ := H
  obtain ⟨a, rfl, ha1, ha2⟩ := cI_of v1
  obtain ⟨b, rfl, hb1, hb2⟩ := cI_of v2
  unfold f_law_5 f_L_turn
  by_cases c : 0 ≤ a ∧ a < T 0 4
  · by_cases hc : canT T a b
    · refine hp_step (fc := f_X11_turn (cI a) (cI b) D) (fm := fun D => f_X12_turn (cI a) (cI b) D) (P := lawP) (C := fun D' => sI D' (pI D 41 a.toNat (cI b))) (some (cI (T 13 a.toNat))) (fun D x h => h) ?_ ?_
      · rw [c_turn_can hp hC hN c hc]
        exact ok_someI ⟨rfl, sI.rf⟩
      · intro D' e
        have hM' : MT D' T := hM.sI e (by omega)
        have hR' : MNow D' T := (aNow.one hR (by omega)).fr (fun j => e _ _) (fun j => e _ _) (fun r j hr => e _ _) (fun j => e _ _) (fun j hj => e _ _)
        rw [m_turn_can hp hM' hR' c hc]
        refine ok_someI ⟨⟨(gI_fr (by omega)).trans gI_eq, rfl⟩, rfl, tS T 13 a.toNat b, K, L, B, H.nw (tS_low (by omega)) ?_ ?_ ?_ ?_⟩
        · obtain ⟨q1, q2, q3, q4⟩ := hn
          unfold TOKn
          have hb : 0 ≤ b ∧ b ≤ 2 := by unfold canT at hc; omega
          simp (disch := omega) only [tS_ne]
          refine ⟨q1, fun p hp => ?_, q3, q4⟩
          by_cases e1 : p = a.toNat
          · subst e1; rw [tS_eq]; exact hb
          · rw [tS_ne (by omega)]; exact q2 p hp
        · have h9 := aNow.setH (j := a.toNat) (x := b) hN dsC
          refine aNow.one (aNow.one (h9.fr (fun j => e _ _) (fun j => e _ _) (fun r j hr => e _ _) (fun j => e _ _) (fun j hj => e _ _)) (by omega)) (by omega)
        · exact aNow.setH (h := 106) (aNow.one hR' (by omega)) dsM
        · intro k j x1 x2 x3
          unfold mScr at x2
          unfold nowC at x3
          show gI (pI (pI D' 88 2 (cI 0)) 106 a.toNat (cI b)) k j = gI D k j
          rw [gI_fr (by omega), gI_fr (by omega), e, gI_fr (by omega)]
    · refine hp_step (fc := f_X11_turn (cI a) (cI b) D) (fm := fun D => f_X12_turn (cI a) (cI b) D) (P := lawP) (C := fun D' => sI D' (pI D 47 1 (cI (T 20 1 + 1)))) (some (cI (-1))) (fun D x h => h) ?_ ?_
      · rw [c_turn_cant hp hC hN hb1 hb2 c hc]
        exact ok_someI ⟨rfl, sI.rf⟩
      · intro D' e
        have hM' : MT D' T := hM.sI e (by omega)
        have hR' : MNow D' T := (aNow.one hR (by omega)).fr (fun j => e _ _) (fun j => e _ _) (fun r j hr => e _ _) (fun j => e _ _) (fun j hj => e _ _)
        rw [m_turn_cant hp hM' hR' hb1 hb2 c hc]
        refine ok_someI ⟨⟨(gI_fr (by omega)).trans gI_eq, rfl⟩, rfl, tS T 20 1 (T 20 1 + 1), K, L, B, H.nw (tS_low (by omega)) ?_ ?_ ?_ ?_⟩
        · obtain ⟨q1, q2, q3, q4⟩ := hn
          unfold TOKn
          simp (disch := omega) only [tS_ne]
          exact ⟨q1, q2, q3, q4⟩
        · have h9 := aNow.setS (j := 1) (x := T 20 1 + 1) hN dsC
          refine aNow.one (aNow.one (h9.fr (fun j => e _ _) (fun j => e _ _) (fun r j hr => e _ _) (fun j => e _ _) (fun j hj => e _ _)) (by omega)) (by omega)
        · exact aNow.setS (st := 104) (aNow.one hR' (by omega)) dsM
        · intro k j x1 x2 x3
          unfold mScr at x2
          unfold nowC at x3
          show gI (pI (pI D' 88 2 (cI 0)) 104 1 (cI (T 20 1 + 1))) k j = gI D k j
          rw [gI_fr (by omega), gI_fr (by omega), e, gI_fr (by omega)]
  · refine hp_step (fc := f_X11_turn (cI a) (cI b) D) (fm := fun D => f_X12_turn (cI a) (cI b) D) (P := lawP) (C := rel T K L B) none (fun D x h => h) ?_ ?_
    · rw [c_turn_no hp hC ha1 ha2 hb1 hb2 c]
      exact ok_someI ⟨rfl, H⟩
    · intro D' H'
      rw [m_turn_no hp H'.2.2.2.2.1 ha1 ha2 c]
      exact ok_someI ⟨gI_eq, rfl, T, K, L, B, H'.fr (fun k j _ b => (fr_code k j b).trans (fr_code k j b))⟩
theorem c_forget {D : aD} {T : aT} (hn : TOKn T) (hN : CNow D T) : f_X11_forget D = if T 15 2 = 0 then some (cI (-1), D) else some (cI (T 15 2 - 1), pI D 40 4 (cI (T 15 2 - 1))) := by
  have hq := hn.1
  obtain ⟨-, -, -, -, -, -, -, -, -, r1⟩ := CNow.two hN
  unfold f_X11_forget
  by_cases c : T 15 2 = 0
  · simp (disch := omega) only [e_bi, e_bind, e_let, e_tr, e_tl, cLm1, cLm2, cL0, cL1, cL2, cL3, cL4, cL5, cL6, cL7, cL8, cL9, cL10, cL11, cL12, cL13, cL14, cL15, cL16, cL17, cL18, cL19, cL20, cL21, cL22, cL23, cL24, cL25, cL29, cL30, cL31, cL32, cL36, cL48, cL50, cL51, cL52, cL64, cL99, cL100, cL700, cL1000, cL9999, cL10000, cI_add, cI_sub, cI_mul, cI_neg, cI_lt, cI_le, cI_eq, ne_eq, ifp, ifn, bI_p, bI_n, aZ_0, aZ_1, aZ_b, e_gdt, e_ifT, e_ifF, not_true_eq_false, not_false_eq_true, e_gd, r1]
  · simp (disch := omega) only [e_bi, e_bind, e_let, e_tr, e_tl, cLm1, cLm2, cL0, cL1, cL2, cL3, cL4, cL5, cL6, cL7, cL8, cL9, cL10, cL11, cL12, cL13, cL14, cL15, cL16, cL17, cL18, cL19, cL20, cL21, cL22, cL23, cL24, cL25, cL29, cL30, cL31, cL32, cL36, cL48, cL50, cL51, cL52, cL64, cL99, cL100, cL700, cL1000, cL9999, cL10000, cI_add, cI_sub, cI_mul, cI_neg, cI_lt, cI_le, cI_eq, ne_eq, ifp, ifn, bI_p, bI_n, aZ_0, aZ_1, aZ_b, e_gdt, e_ifT, e_ifF, not_true_eq_false, not_false_eq_true, e_gd, r1, gI_eq]
theorem m_forget {D : aD} {T : aT} (hn : TOKn T) (hN : MNow D T) : f_X12_forget D = if T 15 2 = 0 then some (cI (-1), pI D 88 2 (cI 0)) else some (cI (T 15 2 - 1), pI (pI D 88 2 (cI 0)) 88 33 (cI (T 15 2 - 1))) := by
  have hq := hn.1
  obtain ⟨-, -, -, -, -, -, -, -, -, r1⟩ := MNow.two hN
  unfold f_X12_forget
  by_cases c : T 15 2 = 0
  · simp (disch := omega) only [e_bi, e_bind, e_let, e_tr, e_tl, cLm1, cLm2, cL0, cL1, cL2, cL3, cL4, cL5, cL6, cL7, cL8, cL9, cL10, cL11, cL12, cL13, cL14, cL15, cL16, cL17, cL18, cL19, cL20, cL21, cL22, cL23, cL24, cL25, cL29, cL30, cL31, cL32, cL36, cL48, cL50, cL51, cL52, cL64, cL99, cL100, cL700, cL1000, cL9999, cL10000, cI_add, cI_sub, cI_mul, cI_neg, cI_lt, cI_le, cI_eq, ne_eq, ifp, ifn, bI_p, bI_n, aZ_0, aZ_1, aZ_b, e_gdt, e_ifT, e_ifF, not_true_eq_false, not_false_eq_true, e_gd, r1, gI_fr]
  · simp (disch := omega) only [e_bi, e_bind, e_let, e_tr, e_tl, cLm1, cLm2, cL0, cL1, cL2, cL3, cL4, cL5, cL6, cL7, cL8, cL9, cL10, cL11, cL12, cL13, cL14, cL15, cL16, cL17, cL18, cL19, cL20, cL21, cL22, cL23, cL24, cL25, cL29, cL30, cL31, cL32, cL36, cL48, cL50, cL51, cL52, cL64, cL99, cL100, cL700, cL1000, cL9999, cL10000, cI_add, cI_sub, cI_mul, cI_neg, cI_lt, cI_le, cI_eq, ne_eq, ifp, ifn, bI_p, bI_n, aZ_0, aZ_1, aZ_b, e_gdt, e_ifT, e_ifF, not_true_eq_false, not_false_eq_true, e_gd, r1, gI_fr, gI_eq]
theorem step_21 {D : aD} {v1 v2 v3 v4 v5 : Int32} (h : lawP D) : Ok2 (f_law_21 v1 v2 v3 v4 v5 D) (fun r D => r = 1 ∧ lawP D) := by
  obtain ⟨T, K, L, B, H⟩ := h
  have ⟨hp, hn, hC, hN, hM, hR, _⟩ := H
  have hq := hn.1
  unfold f_law_21
  by_cases c : T 15 2 = 0
  · refine eq_step (fc := f_X11_forget D) (fm := fun D => f_X12_forget D) (P := lawP) (C := fun D' => D' = D) (cI (-1)) (by rw [c_forget hn hN, ifp c]; exact ok_someI ⟨rfl, rfl⟩) ?_
    rintro D' rfl
    rw [m_forget hn hR, ifp c]
    exact ok_someI ⟨rfl, T, K, L, B, H.fr (fun k j _ b => fr_code k j b)⟩
  · refine eq_step (fc := f_X11_forget D) (fm := fun D => f_X12_forget D) (P := lawP) (C := fun D' => D' = pI D 40 4 (cI (T 15 2 - 1))) (cI (T 15 2 - 1)) (by rw [c_forget hn hN, ifn c]; exact ok_someI ⟨rfl, rfl⟩) ?_
    rintro D' rfl
    have hR' : MNow (pI D 40 4 (cI (T 15 2 - 1))) T := aNow.one hR (by omega)
    rw [m_forget hn hR', ifn c]
    refine ok_someI ⟨rfl, tS T 15 2 (T 15 2 - 1), K, L, B, H.nw (tS_low (by omega)) ?_ ?_ ?_ ?_⟩
    · obtain ⟨q1, q2, q3, q4⟩ := hn
      unfold TOKn
      simp (disch := omega) only [tS_ne, tS_eq]
      exact ⟨by omega, q2, q3, fun i hi => q4 i (by omega)⟩
    · exact ((aNow.setF (j := 2) hN dsC).one (by omega)).one (by omega)
    · exact aNow.setF (j := 2) (f := 31) (aNow.one hR' (by omega)) dsM
    · intro k j x1 x2 x3
      unfold mScr at x2
      unfold nowC at x3
      simp (disch := omega) only [gI_fr]
theorem c_note {D : aD} {T : aT} {a b c d : Int} (hN : CNow D T) (h1 : 0 ≤ T 15 2) (h2 : T 15 2 < 12) : f_X9_note (cI a) (cI b) (cI c) (cI d) D = some (pI (pI (pI (pI (pI D 43 (T 15 2).toNat (cI a)) 44 (T 15 2).toNat (cI b)) 45 (T 15 2).toNat (cI c)) 46 (T 15 2).toNat (cI d)) 40 4 (cI (T 15 2 + 1))) := by
  obtain ⟨-, -, -, -, -, -, -, -, -, r1⟩ := CNow.two hN
  unfold f_X9_note
  simp (disch := omega) only [e_bi, e_bind, e_let, e_tr, e_tl, cLm1, cLm2, cL0, cL1, cL2, cL3, cL4, cL5, cL6, cL7, cL8, cL9, cL10, cL11, cL12, cL13, cL14, cL15, cL16, cL17, cL18, cL19, cL20, cL21, cL22, cL23, cL24, cL25, cL29, cL30, cL31, cL32, cL36, cL48, cL50, cL51, cL52, cL64, cL99, cL100, cL700, cL1000, cL9999, cL10000, cI_add, cI_sub, cI_mul, cI_neg, cI_lt, cI_le, cI_eq, ne_eq, ifp, ifn, bI_p, bI_n, aZ_0, aZ_1, aZ_b, e_gdt, e_ifT, e_ifF, not_true_eq_false, not_false_eq_true, e_gd, r1, gI_fr, cI_inT, cI_nat]
def noseOk (T : aT) (a b c : Int) : Prop := 0 ≤ a ∧ a < T 0 5 ∧ 0 ≤ b ∧ b < 24 ∧ 0 ≤ c ∧ c < T 0 2
def noseT (T : aT) (a b c d : Int) : aT := tS (tS (tS (tS (tS T 16 (T 15 2).toNat a) 17 (T 15 2).toNat b) 18 (T 15 2).toNat c) 19 (T 15 2).toNat d) 15 2 (T 15 2 + 1)
theorem c_nose {D : aD} {T : aT} {a b c d : Int} (hp : TOKp T) (hn : TOKn T) (hC : CP D 2 T) (hN : CNow D T) (a1 : -2147483648 ≤ a) (a2 : a < 2147483648) (b1 : -2147483648 ≤ b) (b2 : b < 2147483648) (c1 : -2147483648 ≤ c) (c2 : c < 2147483648) (d1 : -2147483648 ≤ d) (d2 : d < 2147483648) :
    (¬ noseOk T a b c → f_X11_nose (cI a) (cI b) (cI c) (cI d) D = some (.inl "java/util/NoSuchElementException", D)) ∧
    (noseOk T a b c → ¬ (T 15 2 < 12 ∧ 0 ≤ d ∧ d ≤ 9999) → f_X11_nose (cI a) (cI b) (cI c) (cI d) D = some (.inr (cI (-1)), pI D 47 2 (cI (T 20 2 + 1)))) ∧
    (noseOk T a b c → (T 15 2 < 12 ∧ 0 ≤ d ∧ d ≤ 9999) → f_X11_nose (cI a) (cI b) (cI c) (cI d) D = some (.inr (cI (T 15 2 + 1)), pI (pI (pI (pI (pI D 43 (T 15 2).toNat (cI a)) 44 (T 15 2).toNat (cI b)) 45 (T 15 2).toNat (cI c)) 46 (T 15 2).toNat (cI d)) 40 4 (cI (T 15 2 + 1)))) := by
  have hq := hp.1
  have hq2 := hn.1
  obtain ⟨-, -, q3, -⟩ := CP.two hC
  obtain ⟨-, -, -, -, -, -, r0, -, -, r1⟩ := CNow.two hN
  unfold noseOk
  refine ⟨fun h => ?_, fun h h9 => ?_, fun h h9 => ?_⟩
  · unfold f_X11_nose J_X11_nose_41 J_X11_nose_42
    by_cases x1 : 0 ≤ a ∧ a < T 0 5
    · by_cases x2 : 0 ≤ b ∧ b < 24
      · simp (disch := omega) only [e_bi, e_bind, e_let, e_tr, e_tl, cLm1, cLm2, cL0, cL1, cL2, cL3, cL4, cL5, cL6, cL7, cL8, cL9, cL10, cL11, cL12, cL13, cL14, cL15, cL16, cL17, cL18, cL19, cL20, cL21, cL22, cL23, cL24, cL25, cL29, cL30, cL31, cL32, cL36, cL48, cL50, cL51, cL52, cL64, cL99, cL100, cL700, cL1000, cL9999, cL10000, cI_add, cI_sub, cI_mul, cI_neg, cI_lt, cI_le, cI_eq, ne_eq, ifp, ifn, bI_p, bI_n, aZ_0, aZ_1, aZ_b, e_gdt, e_ifT, e_ifF, not_true_eq_false, not_false_eq_true, e_gd, isBelow_eq, q3, need_0]
      · simp (disch := omega) only [e_bi, e_bind, e_let, e_tr, e_tl, cLm1, cLm2, cL0, cL1, cL2, cL3, cL4, cL5, cL6, cL7, cL8, cL9, cL10, cL11, cL12, cL13, cL14, cL15, cL16, cL17, cL18, cL19, cL20, cL21, cL22, cL23, cL24, cL25, cL29, cL30, cL31, cL32, cL36, cL48, cL50, cL51, cL52, cL64, cL99, cL100, cL700, cL1000, cL9999, cL10000, cI_add, cI_sub, cI_mul, cI_neg, cI_lt, cI_le, cI_eq, ne_eq, ifp, ifn, bI_p, bI_n, aZ_0, aZ_1, aZ_b, e_gdt, e_ifT, e_ifF, not_true_eq_false, not_false_eq_true, e_gd, isBelow_eq, q3, need_0]
    · simp (disch := omega) only [e_bi, e_bind, e_let, e_tr, e_tl, cLm1, cLm2, cL0, cL1, cL2, cL3, cL4, cL5, cL6, cL7, cL8, cL9, cL10, cL11, cL12, cL13, cL14, cL15, cL16, cL17, cL18, cL19, cL20, cL21, cL22, cL23, cL24, cL25, cL29, cL30, cL31, cL32, cL36, cL48, cL50, cL51, cL52, cL64, cL99, cL100, cL700, cL1000, cL9999, cL10000, cI_add, cI_sub, cI_mul, cI_neg, cI_lt, cI_le, cI_eq, ne_eq, ifp, ifn, bI_p, bI_n, aZ_0, aZ_1, aZ_b, e_gdt, e_ifT, e_ifF, not_true_eq_false, not_false_eq_true, e_gd, isBelow_eq, q3, need_0]
  · unfold f_X11_nose J_X11_nose_41 J_X11_nose_42 J_X11_nose_70
    by_cases x1 : T 15 2 < 12
    · by_cases x2 : d < 0
      · simp (disch := omega) only [e_bi, e_bind, e_let, e_tr, e_tl, cLm1, cLm2, cL0, cL1, cL2, cL3, cL4, cL5, cL6, cL7, cL8, cL9, cL10, cL11, cL12, cL13, cL14, cL15, cL16, cL17, cL18, cL19, cL20, cL21, cL22, cL23, cL24, cL25, cL29, cL30, cL31, cL32, cL36, cL48, cL50, cL51, cL52, cL64, cL99, cL100, cL700, cL1000, cL9999, cL10000, cI_add, cI_sub, cI_mul, cI_neg, cI_lt, cI_le, cI_eq, ne_eq, ifp, ifn, bI_p, bI_n, aZ_0, aZ_1, aZ_b, e_gdt, e_ifT, e_ifF, not_true_eq_false, not_false_eq_true, e_gd, cX0, cX1, cX2, cX3, cX4, cX5, cX6, cX7, cX8, cX9, cX10, cX11, cX12, cX13, cX14, cX15, cX16, cX17, cX18, cX19, cX20, cX21, cX22, cX23, cX24, cX25, cX29, cX30, cX31, cX32, cX36, Int.reduceToNat, isBelow_eq, q3, need_1, r1, r0, cI_inT, cI_nat]
      · simp (disch := omega) only [e_bi, e_bind, e_let, e_tr, e_tl, cLm1, cLm2, cL0, cL1, cL2, cL3, cL4, cL5, cL6, cL7, cL8, cL9, cL10, cL11, cL12, cL13, cL14, cL15, cL16, cL17, cL18, cL19, cL20, cL21, cL22, cL23, cL24, cL25, cL29, cL30, cL31, cL32, cL36, cL48, cL50, cL51, cL52, cL64, cL99, cL100, cL700, cL1000, cL9999, cL10000, cI_add, cI_sub, cI_mul, cI_neg, cI_lt, cI_le, cI_eq, ne_eq, ifp, ifn, bI_p, bI_n, aZ_0, aZ_1, aZ_b, e_gdt, e_ifT, e_ifF, not_true_eq_false, not_false_eq_true, e_gd, cX0, cX1, cX2, cX3, cX4, cX5, cX6, cX7, cX8, cX9, cX10, cX11, cX12, cX13, cX14, cX15, cX16, cX17, cX18, cX19, cX20, cX21, cX22, cX23, cX24, cX25, cX29, cX30, cX31, cX32, cX36, Int.reduceToNat, isBelow_eq, q3, need_1, r1, r0, cI_inT, cI_nat]
    · simp (disch := omega) only [e_bi, e_bind, e_let, e_tr, e_tl, cLm1, cLm2, cL0, cL1, cL2, cL3, cL4, cL5, cL6, cL7, cL8, cL9, cL10, cL11, cL12, cL13, cL14, cL15, cL16, cL17, cL18, cL19, cL20, cL21, cL22, cL23, cL24, cL25, cL29, cL30, cL31, cL32, cL36, cL48, cL50, cL51, cL52, cL64, cL99, cL100, cL700, cL1000, cL9999, cL10000, cI_add, cI_sub, cI_mul, cI_neg, cI_lt, cI_le, cI_eq, ne_eq, ifp, ifn, bI_p, bI_n, aZ_0, aZ_1, aZ_b, e_gdt, e_ifT, e_ifF, not_true_eq_false, not_false_eq_true, e_gd, cX0, cX1, cX2, cX3, cX4, cX5, cX6, cX7, cX8, cX9, cX10, cX11, cX12, cX13, cX14, cX15, cX16, cX17, cX18, cX19, cX20, cX21, cX22, cX23, cX24, cX25, cX29, cX30, cX31, cX32, cX36, Int.reduceToNat, isBelow_eq, q3, need_1, r1, r0, cI_inT, cI_nat]
  · unfold f_X11_nose J_X11_nose_41 J_X11_nose_42 J_X11_nose_70
    simp (disch := omega) only [e_bi, e_bind, e_let, e_tr, e_tl, cLm1, cLm2, cL0, cL1, cL2, cL3, cL4, cL5, cL6, cL7, cL8, cL9, cL10, cL11, cL12, cL13, cL14, cL15, cL16, cL17, cL18, cL19, cL20, cL21, cL22, cL23, cL24, cL25, cL29, cL30, cL31, cL32, cL36, cL48, cL50, cL51, cL52, cL64, cL99, cL100, cL700, cL1000, cL9999, cL10000, cI_add, cI_sub, cI_mul, cI_neg, cI_lt, cI_le, cI_eq, ne_eq, ifp, ifn, bI_p, bI_n, aZ_0, aZ_1, aZ_b, e_gdt, e_ifT, e_ifF, not_true_eq_false, not_false_eq_true, e_gd, isBelow_eq, q3, need_1, r1, c_note hN hq2.2.2.2.2.1 h9.1, gI_eq]
theorem m_nose {D : aD} {T : aT} {a b c d : Int} (hp : TOKp T) (hn : TOKn T) (hM : MT D T) (hN : MNow D T) (a1 : -2147483648 ≤ a) (a2 : a < 2147483648) (b1 : -2147483648 ≤ b) (b2 : b < 2147483648) (c1 : -2147483648 ≤ c) (c2 : c < 2147483648) (d1 : -2147483648 ≤ d) (d2 : d < 2147483648) :
    (¬ noseOk T a b c → f_X12_nose (cI a) (cI b) (cI c) (cI d) D = some (cI 0, pI (pI D 88 2 (cI 0)) 88 2 (cI 1))) ∧
    (noseOk T a b c → ¬ (T 15 2 < 12 ∧ 0 ≤ d ∧ d ≤ 9999) → f_X12_nose (cI a) (cI b) (cI c) (cI d) D = some (cI (-1), pI (pI D 88 2 (cI 0)) 104 2 (cI (T 20 2 + 1)))) ∧
    (noseOk T a b c → (T 15 2 < 12 ∧ 0 ≤ d ∧ d ≤ 9999) → f_X12_nose (cI a) (cI b) (cI c) (cI d) D = some (cI (T 15 2 + 1), pI (pI (pI (pI (pI (pI D 88 2 (cI 0)) 118 (T 15 2).toNat (cI a)) 119 (T 15 2).toNat (cI b)) 120 (T 15 2).toNat (cI c)) 121 (T 15 2).toNat (cI d)) 88 33 (cI (T 15 2 + 1)))) := by
  have hM' : MT (pI D 88 2 (cI 0)) T := hM.fr (fun k j a b => gI_fr (by omega)) (gI_fr (by omega))
  have hq := hp.1
  have hq2 := hn.1
  have q1 := (MT.two hM).1
  obtain ⟨-, -, -, -, -, -, r0, -, -, r1⟩ := MNow.two hN
  unfold noseOk
  refine ⟨fun h => ?_, fun h h9 => ?_, fun h h9 => ?_⟩
  · unfold f_X12_nose J_X12_nose_66
    by_cases x1 : 0 ≤ a ∧ a < T 0 5
    · by_cases x2 : 0 ≤ b ∧ b < 24
      · simp (disch := omega) only [e_bi, e_bind, e_let, e_tr, e_tl, cLm1, cLm2, cL0, cL1, cL2, cL3, cL4, cL5, cL6, cL7, cL8, cL9, cL10, cL11, cL12, cL13, cL14, cL15, cL16, cL17, cL18, cL19, cL20, cL21, cL22, cL23, cL24, cL25, cL29, cL30, cL31, cL32, cL36, cL48, cL50, cL51, cL52, cL64, cL99, cL100, cL700, cL1000, cL9999, cL10000, cI_add, cI_sub, cI_mul, cI_neg, cI_lt, cI_le, cI_eq, ne_eq, ifp, ifn, bI_p, bI_n, aZ_0, aZ_1, aZ_b, e_gdt, e_ifT, e_ifF, not_true_eq_false, not_false_eq_true, e_gd, cX0, cX1, cX2, cX3, cX4, cX5, cX6, cX7, cX8, cX9, cX10, cX11, cX12, cX13, cX14, cX15, cX16, cX17, cX18, cX19, cX20, cX21, cX22, cX23, cX24, cX25, cX29, cX30, cX31, cX32, cX36, Int.reduceToNat, isIn_eq, cI_inT, gI_fr, q1, isSort_eq hp hM' c1 c2, fail_eq]
      · simp (disch := omega) only [e_bi, e_bind, e_let, e_tr, e_tl, cLm1, cLm2, cL0, cL1, cL2, cL3, cL4, cL5, cL6, cL7, cL8, cL9, cL10, cL11, cL12, cL13, cL14, cL15, cL16, cL17, cL18, cL19, cL20, cL21, cL22, cL23, cL24, cL25, cL29, cL30, cL31, cL32, cL36, cL48, cL50, cL51, cL52, cL64, cL99, cL100, cL700, cL1000, cL9999, cL10000, cI_add, cI_sub, cI_mul, cI_neg, cI_lt, cI_le, cI_eq, ne_eq, ifp, ifn, bI_p, bI_n, aZ_0, aZ_1, aZ_b, e_gdt, e_ifT, e_ifF, not_true_eq_false, not_false_eq_true, e_gd, cX0, cX1, cX2, cX3, cX4, cX5, cX6, cX7, cX8, cX9, cX10, cX11, cX12, cX13, cX14, cX15, cX16, cX17, cX18, cX19, cX20, cX21, cX22, cX23, cX24, cX25, cX29, cX30, cX31, cX32, cX36, Int.reduceToNat, isIn_eq, cI_inT, gI_fr, q1, fail_eq]
    · simp (disch := omega) only [e_bi, e_bind, e_let, e_tr, e_tl, cLm1, cLm2, cL0, cL1, cL2, cL3, cL4, cL5, cL6, cL7, cL8, cL9, cL10, cL11, cL12, cL13, cL14, cL15, cL16, cL17, cL18, cL19, cL20, cL21, cL22, cL23, cL24, cL25, cL29, cL30, cL31, cL32, cL36, cL48, cL50, cL51, cL52, cL64, cL99, cL100, cL700, cL1000, cL9999, cL10000, cI_add, cI_sub, cI_mul, cI_neg, cI_lt, cI_le, cI_eq, ne_eq, ifp, ifn, bI_p, bI_n, aZ_0, aZ_1, aZ_b, e_gdt, e_ifT, e_ifF, not_true_eq_false, not_false_eq_true, e_gd, cX0, cX1, cX2, cX3, cX4, cX5, cX6, cX7, cX8, cX9, cX10, cX11, cX12, cX13, cX14, cX15, cX16, cX17, cX18, cX19, cX20, cX21, cX22, cX23, cX24, cX25, cX29, cX30, cX31, cX32, cX36, Int.reduceToNat, isIn_eq, cI_inT, gI_fr, q1, fail_eq]
  · unfold f_X12_nose J_X12_nose_66
    by_cases x1 : T 15 2 < 12
    · simp (disch := omega) only [e_bi, e_bind, e_let, e_tr, e_tl, cLm1, cLm2, cL0, cL1, cL2, cL3, cL4, cL5, cL6, cL7, cL8, cL9, cL10, cL11, cL12, cL13, cL14, cL15, cL16, cL17, cL18, cL19, cL20, cL21, cL22, cL23, cL24, cL25, cL29, cL30, cL31, cL32, cL36, cL48, cL50, cL51, cL52, cL64, cL99, cL100, cL700, cL1000, cL9999, cL10000, cI_add, cI_sub, cI_mul, cI_neg, cI_lt, cI_le, cI_eq, ne_eq, ifp, ifn, bI_p, bI_n, aZ_0, aZ_1, aZ_b, e_gdt, e_ifT, e_ifF, not_true_eq_false, not_false_eq_true, e_gd, cX0, cX1, cX2, cX3, cX4, cX5, cX6, cX7, cX8, cX9, cX10, cX11, cX12, cX13, cX14, cX15, cX16, cX17, cX18, cX19, cX20, cX21, cX22, cX23, cX24, cX25, cX29, cX30, cX31, cX32, cX36, Int.reduceToNat, isIn_eq, cI_inT, gI_fr, q1, r1, r0, isSort_eq hp hM' c1 c2]
    · simp (disch := omega) only [e_bi, e_bind, e_let, e_tr, e_tl, cLm1, cLm2, cL0, cL1, cL2, cL3, cL4, cL5, cL6, cL7, cL8, cL9, cL10, cL11, cL12, cL13, cL14, cL15, cL16, cL17, cL18, cL19, cL20, cL21, cL22, cL23, cL24, cL25, cL29, cL30, cL31, cL32, cL36, cL48, cL50, cL51, cL52, cL64, cL99, cL100, cL700, cL1000, cL9999, cL10000, cI_add, cI_sub, cI_mul, cI_neg, cI_lt, cI_le, cI_eq, ne_eq, ifp, ifn, bI_p, bI_n, aZ_0, aZ_1, aZ_b, e_gdt, e_ifT, e_ifF, not_true_eq_false, not_false_eq_true, e_gd, cX0, cX1, cX2, cX3, cX4, cX5, cX6, cX7, cX8, cX9, cX10, cX11, cX12, cX13, cX14, cX15, cX16, cX17, cX18, cX19, cX20, cX21, cX22, cX23, cX24, cX25, cX29, cX30, cX31, cX32, cX36, Int.reduceToNat, isIn_eq, cI_inT, gI_fr, q1, r1, r0, isSort_eq hp hM' c1 c2]
  · unfold f_X12_nose J_X12_nose_66
    simp (disch := omega) only [e_bi, e_bind, e_let, e_tr, e_tl, cLm1, cLm2, cL0, cL1, cL2, cL3, cL4, cL5, cL6, cL7, cL8, cL9, cL10, cL11, cL12, cL13, cL14, cL15, cL16, cL17, cL18, cL19, cL20, cL21, cL22, cL23, cL24, cL25, cL29, cL30, cL31, cL32, cL36, cL48, cL50, cL51, cL52, cL64, cL99, cL100, cL700, cL1000, cL9999, cL10000, cI_add, cI_sub, cI_mul, cI_neg, cI_lt, cI_le, cI_eq, ne_eq, ifp, ifn, bI_p, bI_n, aZ_0, aZ_1, aZ_b, e_gdt, e_ifT, e_ifF, not_true_eq_false, not_false_eq_true, e_gd, cX0, cX1, cX2, cX3, cX4, cX5, cX6, cX7, cX8, cX9, cX10, cX11, cX12, cX13, cX14, cX15, cX16, cX17, cX18, cX19, cX20, cX21, cX22, cX23, cX24, cX25, cX29, cX30, cX31, cX32, cX36, Int.reduceToNat, isIn_eq, cI_inT, cI_nat, gI_fr, q1, r1, r0, isSort_eq hp hM' c1 c2, gI_eq]
theorem step_20 {D : aD} {v1 v2 v3 v4 v5 : Int32} (h : lawP D) : Ok2 (f_law_20 v1 v2 v3 v4 v5 D) (fun r D => r = 1 ∧ lawP D) := by
  obtain ⟨T, K, L, B, H⟩ := h
  have ⟨hp, hn, hC, hN, hM, hR, _⟩ := H
  have hq := hp.1
  have hq2 := hn.1
  obtain ⟨a, rfl, ha1, ha2⟩ := cI_of v1
  obtain ⟨b, rfl, hb1, hb2⟩ := cI_of v2
  obtain ⟨c, rfl, hc1, hc2⟩ := cI_of v3
  obtain ⟨d, rfl, hd1, hd2⟩ := cI_of v4
  unfold f_law_20 f_L_nose
  have eC := c_nose hp hn hC hN ha1 ha2 hb1 hb2 hc1 hc2 hd1 hd2
  by_cases x : noseOk T a b c
  · by_cases y : T 15 2 < 12 ∧ 0 ≤ d ∧ d ≤ 9999
    · generalize hDD : (pI (pI (pI (pI (pI D 43 (T 15 2).toNat (cI a)) 44 (T 15 2).toNat (cI b)) 45 (T 15 2).toNat (cI c)) 46 (T 15 2).toNat (cI d)) 40 4 (cI (T 15 2 + 1))) = DD at eC
      refine hp_step (fc := f_X11_nose (cI a) (cI b) (cI c) (cI d) D) (fm := fun D => f_X12_nose (cI a) (cI b) (cI c) (cI d) D) (P := lawP) (C := fun D' => sI D' DD) (some (cI (T 15 2 + 1))) (fun D x h => h) ?_ ?_
      · rw [eC.2.2 x y]
        exact ok_someI ⟨rfl, sI.rf⟩
      · intro D' e
        have e0 : ∀ k j : Nat, (k < 40 ∨ 46 < k) → gI D' k j = gI D k j := fun k j hk => by
          rw [e, ← hDD]
          simp (disch := omega) only [gI_fr]
        have hM' : MT D' T := hM.fr (fun k j a b => e0 k j (by omega)) (e0 _ _ (by omega))
        have hR' : MNow D' T := aNow.fr hR (fun j => e0 _ _ (by omega)) (fun j => e0 _ _ (by omega)) (fun r j hr => e0 _ _ (by omega)) (fun j => e0 _ _ (by omega)) (fun j hj => e0 _ _ (by omega))
        rw [(m_nose hp hn hM' hR' ha1 ha2 hb1 hb2 hc1 hc2 hd1 hd2).2.2 x y]
        refine ok_someI ⟨⟨by simp (disch := omega) only [gI_fr, gI_eq], rfl⟩, rfl, noseT T a b c d, K, L, B, H.nw ?_ ?_ ?_ ?_ ?_⟩
        · intro k hk
          funext j
          unfold noseT
          simp (disch := omega) only [tS_ne]
        · obtain ⟨q1, q2, q3, q4⟩ := hn
          unfold TOKn noseT
          unfold noseOk at x
          simp (disch := omega) only [tS_ne, tS_eq]
          refine ⟨by omega, q2, q3, fun i hi => ?_⟩
          by_cases e1 : i = (T 15 2).toNat
          · subst e1
            simp (disch := omega) only [tS_ne, tS_eq]
            omega
          · simp (disch := omega) only [tS_ne]
            exact q4 i (by omega)
        · have h9 := aNow.setF (j := 2) (x := T 15 2 + 1) (aNow.setN (q := 3) (j := (T 15 2).toNat) (x := d) (aNow.setN (q := 2) (j := (T 15 2).toNat) (x := c) (aNow.setN (q := 1) (j := (T 15 2).toNat) (x := b) (aNow.setN (q := 0) (j := (T 15 2).toNat) (x := a) hN dsC (by omega)) dsC (by omega)) dsC (by omega)) dsC (by omega)) dsC
          have h8 : CNow DD (noseT T a b c d) := by rw [← hDD]; exact h9
          refine aNow.fr h8 (fun j => ?_) (fun j => ?_) (fun r j hr => ?_) (fun j => ?_) (fun j hj => ?_) <;>
          · simp (disch := omega) only [gI_fr]
            exact e _ _
        · exact aNow.setF (j := 2) (f := 31) (x := T 15 2 + 1) (aNow.setN (n := 118) (q := 3) (j := (T 15 2).toNat) (x := d) (aNow.setN (n := 118) (q := 2) (j := (T 15 2).toNat) (x := c) (aNow.setN (n := 118) (q := 1) (j := (T 15 2).toNat) (x := b) (aNow.setN (n := 118) (q := 0) (j := (T 15 2).toNat) (x := a) (aNow.one hR' (by omega)) dsM (by omega)) dsM (by omega)) dsM (by omega)) dsM (by omega)) dsM
        · intro k j x1 x2 x3
          unfold mScr at x2
          unfold nowC at x3
          simp (disch := omega) only [gI_fr]
          exact e0 k j (by omega)
    · refine hp_step (fc := f_X11_nose (cI a) (cI b) (cI c) (cI d) D) (fm := fun D => f_X12_nose (cI a) (cI b) (cI c) (cI d) D) (P := lawP) (C := fun D' => sI D' (pI D 47 2 (cI (T 20 2 + 1)))) (some (cI (-1))) (fun D x h => h) ?_ ?_
      · rw [eC.2.1 x y]
        exact ok_someI ⟨rfl, sI.rf⟩
      · intro D' e
        have hM' : MT D' T := hM.sI e (by omega)
        have hR' : MNow D' T := (aNow.one hR (by omega)).fr (fun j => e _ _) (fun j => e _ _) (fun r j hr => e _ _) (fun j => e _ _) (fun j hj => e _ _)
        rw [(m_nose hp hn hM' hR' ha1 ha2 hb1 hb2 hc1 hc2 hd1 hd2).2.1 x y]
        refine ok_someI ⟨⟨(gI_fr (by omega)).trans gI_eq, rfl⟩, rfl, tS T 20 2 (T 20 2 + 1), K, L, B, H.nw (tS_low (by omega)) ?_ ?_ ?_ ?_⟩
        · obtain ⟨q1, q2, q3, q4⟩ := hn
          unfold TOKn
          simp (disch := omega) only [tS_ne]
          exact ⟨q1, q2, q3, q4⟩
        · have h9 := aNow.setS (j := 2) (x := T 20 2 + 1) hN dsC
          refine aNow.one (aNow.one (h9.fr (fun j => e _ _) (fun j => e _ _) (fun r j hr => e _ _) (fun j => e _ _) (fun j hj => e _ _)) (by omega)) (by omega)
        · exact aNow.setS (st := 104) (aNow.one hR' (by omega)) dsM
        · intro k j x1 x2 x3
          unfold mScr at x2
          unfold nowC at x3
          show gI (pI (pI D' 88 2 (cI 0)) 104 2 (cI (T 20 2 + 1))) k j = gI D k j
          rw [gI_fr (by omega), gI_fr (by omega), e, gI_fr (by omega)]
  · refine hp_step (fc := f_X11_nose (cI a) (cI b) (cI c) (cI d) D) (fm := fun D => f_X12_nose (cI a) (cI b) (cI c) (cI d) D) (P := lawP) (C := rel T K L B) none (fun D x h => h) ?_ ?_
    · rw [eC.1 x]
      exact ok_someI ⟨rfl, H⟩
    · intro D' H'
      rw [(m_nose hp hn H'.2.2.2.2.1 H'.2.2.2.2.2.1 ha1 ha2 hb1 hb2 hc1 hc2 hd1 hd2).1 x]
      exact ok_someI ⟨gI_eq, rfl, T, K, L, B, H'.fr (fun k j _ b => (fr_code k j b).trans (fr_code k j b))⟩
end TRN
