/-! filling a place on both sides; smell, smelt, mark -/
section PLC
def acR (S V : Nat → Int) (n s : Nat) : Int := sgN n (fun p => if S p = (s : Int) then V p else 0)
def acO (S G V : Nat → Int) (n k : Nat) : Int := sgN n (fun p => if G p ≠ -1 ∧ G p * 6 + S p = (k : Int) then V p else 0)
theorem ac_b {S G V : Nat → Int} {n : Nat} (hn : n ≤ 13) (hS : ∀ p : Nat, p < n → 0 ≤ S p ∧ S p < 6) (hV : ∀ p : Nat, p < n → 0 ≤ V p ∧ V p ≤ 360) : bB (acR S V n) (acO S G V n) := by
  refine ⟨fun j hj => ?_, fun g s hg hs => ⟨?_, ?_⟩⟩
  · have h := sg_b (f := fun p => if S p = (j : Int) then V p else 0) (B := 360) n (fun p hp => by
      have := hV p hp
      show 0 ≤ (if S p = (j : Int) then V p else 0) ∧ (if S p = (j : Int) then V p else 0) ≤ 360
      split <;> omega)
    unfold acR
    omega
  · have h := sg_b (f := fun p => if G p ≠ -1 ∧ G p * 6 + S p = ((g * 6 + s : Nat) : Int) then V p else 0) (B := 360) n (fun p hp => by
      have := hV p hp
      show 0 ≤ (if G p ≠ -1 ∧ G p * 6 + S p = ((g * 6 + s : Nat) : Int) then V p else 0) ∧ (if G p ≠ -1 ∧ G p * 6 + S p = ((g * 6 + s : Nat) : Int) then V p else 0) ≤ 360
      split <;> omega)
    exact h.1
  · refine sg_le n (fun p hp => ?_)
    have a := hV p hp
    have b := hS p hp
    show (if G p ≠ -1 ∧ G p * 6 + S p = ((g * 6 + s : Nat) : Int) then V p else 0) ≤ (if S p = (s : Int) then V p else 0)
    by_cases c : G p ≠ -1 ∧ G p * 6 + S p = ((g * 6 + s : Nat) : Int)
    · rw [if_pos c, if_pos (by omega)]; omega
    · rw [if_neg c]; split <;> omega
theorem clear_ok {D : aD} : Ok (f_X0_clear D) (fun D' => bN D' (fun _ => 0) (fun _ => 0) ∧ ∀ k j : Nat, k ≠ 58 → k ≠ 59 → gI D' k j = gI D k j) := by
  unfold f_X0_clear
  refine ok_bindI ((fill_ok (by omega)).mono fun D1 q1 => ok_bindI ((fill_ok (by omega)).mono fun D2 q2 => ok_someI ⟨⟨fun j hj => ?_, fun k hk => q2.1 k hk⟩, fun k j h1 h2 => ?_⟩))
  · rw [q2.2.1 58 j (by omega), q1.1 j hj]; rfl
  · rw [q2.2.1 k j (by omega), q1.2.1 k j (by omega)]
theorem add_ok {D : aD} {R O : Nat → Int} {s g v : Int} (hN : bN D R O) (hs1 : 0 ≤ s) (hs2 : s < 6) (hg1 : -1 ≤ g) (hg2 : g < 5) : Ok (f_X0_add (cI s) (cI g) (cI v) D) (fun D' => bN D' (fun j => R j + if s = (j : Int) then v else 0) (fun k => O k + if g ≠ -1 ∧ g * 6 + s = (k : Int) then v else 0) ∧ ∀ k j : Nat, k ≠ 58 → k ≠ 59 → gI D' k j = gI D k j) := by
  have n1 := hN.1 s.toNat (by omega)
  by_cases c : g = -1
  · subst c
    have e : f_X0_add (cI s) (cI (-1)) (cI v) D = some (pI D 58 s.toNat (cI (R s.toNat + v))) := by
      unfold f_X0_add
      simp (disch := omega) only [e_bi, e_bind, e_let, e_tr, e_tl, cLm1, cLm2, cL0, cL1, cL2, cL3, cL4, cL5, cL6, cL7, cL8, cL9, cL10, cL11, cL12, cL13, cL14, cL15, cL16, cL17, cL18, cL19, cL20, cL21, cL22, cL23, cL24, cL25, cL29, cL30, cL31, cL32, cL36, cL48, cL50, cL51, cL52, cL64, cL99, cL100, cL700, cL1000, cL9999, cL10000, cI_add, cI_sub, cI_mul, cI_neg, cI_lt, cI_le, cI_eq, ne_eq, ifp, ifn, bI_p, bI_n, aZ_0, aZ_1, aZ_b, e_gdt, e_ifT, e_ifF, not_true_eq_false, not_false_eq_true, e_gd, cI_inT, cI_nat, n1]
    rw [e]
    refine ok_someI ⟨⟨fun j hj => ?_, fun k hk => ?_⟩, fun k j h1 h2 => gI_fr (by omega)⟩
    · show gI (pI D 58 s.toNat (cI (R s.toNat + v))) 58 j = cI (R j + if s = (j : Int) then v else 0)
      by_cases e : j = s.toNat
      · subst e; rw [gI_eq, if_pos (by omega)]
      · rw [gI_fr (by omega), if_neg (by omega), Int.add_zero]; exact hN.1 j hj
    · show gI (pI D 58 s.toNat (cI (R s.toNat + v))) 59 k = cI (O k + if (-1 : Int) ≠ -1 ∧ -1 * 6 + s = (k : Int) then v else 0)
      rw [gI_fr (by omega), if_neg (fun z => z.1 rfl), Int.add_zero]; exact hN.2 k hk
  · have n2 := hN.2 (g * 6 + s).toNat (by omega)
    have e : f_X0_add (cI s) (cI g) (cI v) D = some (pI (pI D 58 s.toNat (cI (R s.toNat + v))) 59 (g * 6 + s).toNat (cI (O (g * 6 + s).toNat + v))) := by
      unfold f_X0_add
      simp (disch := omega) only [e_bi, e_bind, e_let, e_tr, e_tl, cLm1, cLm2, cL0, cL1, cL2, cL3, cL4, cL5, cL6, cL7, cL8, cL9, cL10, cL11, cL12, cL13, cL14, cL15, cL16, cL17, cL18, cL19, cL20, cL21, cL22, cL23, cL24, cL25, cL29, cL30, cL31, cL32, cL36, cL48, cL50, cL51, cL52, cL64, cL99, cL100, cL700, cL1000, cL9999, cL10000, cI_add, cI_sub, cI_mul, cI_neg, cI_lt, cI_le, cI_eq, ne_eq, ifp, ifn, bI_p, bI_n, aZ_0, aZ_1, aZ_b, e_gdt, e_ifT, e_ifF, not_true_eq_false, not_false_eq_true, e_gd, cI_inT, cI_nat, n1, n2, gI_fr]
    rw [e]
    refine ok_someI ⟨⟨fun j hj => ?_, fun k hk => ?_⟩, fun k j h1 h2 => by rw [gI_fr (by omega), gI_fr (by omega)]⟩
    · show gI (pI (pI D 58 s.toNat (cI (R s.toNat + v))) 59 (g * 6 + s).toNat (cI (O (g * 6 + s).toNat + v))) 58 j = cI (R j + if s = (j : Int) then v else 0)
      rw [gI_fr (by omega)]
      by_cases e : j = s.toNat
      · subst e; rw [gI_eq, if_pos (by omega)]
      · rw [gI_fr (by omega), if_neg (by omega), Int.add_zero]; exact hN.1 j hj
    · show gI (pI (pI D 58 s.toNat (cI (R s.toNat + v))) 59 (g * 6 + s).toNat (cI (O (g * 6 + s).toNat + v))) 59 k = cI (O k + if g ≠ -1 ∧ g * 6 + s = (k : Int) then v else 0)
      by_cases e : k = (g * 6 + s).toNat
      · subst e; rw [gI_eq, if_pos ⟨c, by omega⟩]
      · rw [gI_fr (by omega), gI_fr (by omega), if_neg (by omega), Int.add_zero]; exact hN.2 k hk
theorem cF {D D' : aD} {T : aT} (hp : TOKp T) (hC : CP D 2 T) (hN : CNow D T) (e : ∀ k j : Nat, k < 57 → gI D' k j = gI D k j) : CP D' 2 T ∧ CNow D' T :=
  ⟨hC.fr hp (fun k j a => e _ j (by omega)), aNow.fr hN (fun j => e _ _ (by omega)) (fun j => e _ _ (by omega)) (fun r j hr => e _ _ (by omega)) (fun j => e _ _ (by omega)) (fun j hj => e _ _ (by omega))⟩
def rawN (T : aT) (cell hour w : Int) (s : Nat) : Int := acR (T 8) (fun p => smN T p cell hour w) (T 0 4).toNat s
def ownN (T : aT) (cell hour w : Int) (k : Nat) : Int := acO (T 8) (T 10) (fun p => smN T p cell hour w) (T 0 4).toNat k
theorem bN.cg {D : aD} {R O R' O' : Nat → Int} (h : bN D R O) (h1 : ∀ j : Nat, j < 6 → R' j = R j) (h2 : ∀ k : Nat, k < 30 → O' k = O k) : bN D R' O' := ⟨fun j hj => by rw [h1 j hj]; exact h.1 j hj, fun k hk => by rw [h2 k hk]; exact h.2 k hk⟩
theorem bN.fr {D D' : aD} {R O : Nat → Int} (h : bN D R O) (e1 : ∀ j, gI D' 58 j = gI D 58 j) (e2 : ∀ j, gI D' 59 j = gI D 59 j) : bN D' R O := ⟨fun j hj => (e1 j).trans (h.1 j hj), fun k hk => (e2 k).trans (h.2 k hk)⟩
theorem fillB_ok {D : aD} {T : aT} {cell hour w : Int} (hp : TOKp T) (hn : TOKn T) (hC : CP D 2 T) (hN : CNow D T) (h3 : 0 ≤ cell) (h4 : cell < T 0 0 * T 0 1) (u1 : 0 ≤ hour) (u2 : hour < 24) (h5 : 0 ≤ w) (h6 : w < 5) :
    Ok (f_X0_fill (cI cell) (cI hour) (cI w) D) (fun D' => bN D' (rawN T cell hour w) (ownN T cell hour w) ∧ ∀ k j : Nat, k ≠ 58 → k ≠ 59 → gI D' k j = gI D k j) := by
  have hq := hp.1
  unfold f_X0_fill
  refine ok_bindI (clear_ok.mono fun D1 q1 => ?_)
  unfold J_X0_fill_7
  refine ok_bindI (ok_lp (fun i t => t.1 = cI (i : Int) ∧ bN t.2 (acR (T 8) (fun p => smN T p cell hour w) i) (acO (T 8) (T 10) (fun p => smN T p cell hour w) i) ∧ ∀ k j : Nat, k ≠ 58 → k ≠ 59 → gI t.2 k j = gI D k j) (T 0 4).toNat (by omega) ⟨rfl, q1.1, q1.2⟩ ?_)
  rintro i ⟨x, D2⟩ hi ⟨rfl, h1, h2⟩
  show Ok (B_X0_fill_7 (cI cell) (cI hour) (cI w) (cI (i : Int)) D2) _
  obtain ⟨hC2, hN2⟩ := cF hp hC hN (D' := D2) (fun k j hk => h2 k j (by omega) (by omega))
  obtain ⟨-, -, q3, -, -, q6, -, q8, -⟩ := CP.two hC2
  have e : ((i : Int)).toNat = i := by omega
  unfold B_X0_fill_7
  by_cases c : (i : Int) < T 0 4
  · have r := hp.2.2.2.1 i c
    simp (disch := omega) only [e_bi, e_bind, e_let, e_tr, e_tl, cLm1, cLm2, cL0, cL1, cL2, cL3, cL4, cL5, cL6, cL7, cL8, cL9, cL10, cL11, cL12, cL13, cL14, cL15, cL16, cL17, cL18, cL19, cL20, cL21, cL22, cL23, cL24, cL25, cL29, cL30, cL31, cL32, cL36, cL48, cL50, cL51, cL52, cL64, cL99, cL100, cL700, cL1000, cL9999, cL10000, cI_add, cI_sub, cI_mul, cI_neg, cI_lt, cI_le, cI_eq, ne_eq, ifp, ifn, bI_p, bI_n, aZ_0, aZ_1, aZ_b, e_gdt, e_ifT, e_ifF, not_true_eq_false, not_false_eq_true, e_gd, q3, plantScent_eq hp hn hC2 hN2 c h3 h4 u1 u2 h5 h6, cI_inT, cI_nat, e, q6, q8]
    refine ok_bindI ((add_ok h1 (by omega) (by omega) (by omega) (by omega)).mono fun D3 q => ok_someI (Or.inl ⟨_, rfl, by omega, rfl, q.1, fun k j a b => (q.2 k j a b).trans (h2 k j a b)⟩))
  · simp (disch := omega) only [e_bi, e_bind, e_let, e_tr, e_tl, cLm1, cLm2, cL0, cL1, cL2, cL3, cL4, cL5, cL6, cL7, cL8, cL9, cL10, cL11, cL12, cL13, cL14, cL15, cL16, cL17, cL18, cL19, cL20, cL21, cL22, cL23, cL24, cL25, cL29, cL30, cL31, cL32, cL36, cL48, cL50, cL51, cL52, cL64, cL99, cL100, cL700, cL1000, cL9999, cL10000, cI_add, cI_sub, cI_mul, cI_neg, cI_lt, cI_le, cI_eq, ne_eq, ifp, ifn, bI_p, bI_n, aZ_0, aZ_1, aZ_b, e_gdt, e_ifT, e_ifF, not_true_eq_false, not_false_eq_true, e_gd, q3, ok_some]
    refine Or.inr ⟨_, rfl, ?_⟩
    unfold J_X0_fill_62
    obtain rfl : i = (T 0 4).toNat := by omega
    exact ok_someI ⟨h1, h2⟩
theorem raw_b {T : aT} {cell hour w : Int} (hp : TOKp T) (h3 : 0 ≤ cell) (h4 : cell < T 0 0 * T 0 1) : bB (rawN T cell hour w) (ownN T cell hour w) := by
  have hq := hp.1
  exact ac_b (by omega) (fun p hp2 => by have := hp.2.2.2.1 p (by omega); omega) (fun p hp2 => sm_b hp (by omega) h3 h4)
def airT (T : aT) (c h w : Int) : Prop := 0 ≤ c ∧ c < T 0 0 * T 0 1 ∧ 0 ≤ h ∧ h < 24 ∧ 0 ≤ w ∧ w < 5
theorem needAir_eq {D : aD} {T : aT} {c h w : Int} (hp : TOKp T) (hC : CP D 2 T) (c1 : -2147483648 ≤ c) (c2 : c < 2147483648) (h1 : -2147483648 ≤ h) (h2 : h < 2147483648) (w1 : -2147483648 ≤ w) (w2 : w < 2147483648) :
    (airT T c h w → f_X11_needAir (cI c) (cI h) (cI w) D = some (.inr (cI 0), D)) ∧ (¬ airT T c h w → f_X11_needAir (cI c) (cI h) (cI w) D = some (.inl "java/util/NoSuchElementException", D)) := by
  have hq := hp.1
  obtain ⟨q1, q2, -⟩ := CP.two hC
  unfold airT f_X11_needAir J_X11_needAir_30 J_X11_needAir_31 f_X4_cells f_X11_needWind
  refine ⟨fun x => ?_, fun x => ?_⟩
  · simp (disch := omega) only [e_bi, e_bind, e_let, e_tr, e_tl, cLm1, cLm2, cL0, cL1, cL2, cL3, cL4, cL5, cL6, cL7, cL8, cL9, cL10, cL11, cL12, cL13, cL14, cL15, cL16, cL17, cL18, cL19, cL20, cL21, cL22, cL23, cL24, cL25, cL29, cL30, cL31, cL32, cL36, cL48, cL50, cL51, cL52, cL64, cL99, cL100, cL700, cL1000, cL9999, cL10000, cI_add, cI_sub, cI_mul, cI_neg, cI_lt, cI_le, cI_eq, ne_eq, ifp, ifn, bI_p, bI_n, aZ_0, aZ_1, aZ_b, e_gdt, e_ifT, e_ifF, not_true_eq_false, not_false_eq_true, e_gd, q1, q2, isBelow_eq, need_1, need_0]
  · by_cases x1 : 0 ≤ c ∧ c < T 0 0 * T 0 1
    · by_cases x2 : 0 ≤ h ∧ h < 24
      · simp (disch := omega) only [e_bi, e_bind, e_let, e_tr, e_tl, cLm1, cLm2, cL0, cL1, cL2, cL3, cL4, cL5, cL6, cL7, cL8, cL9, cL10, cL11, cL12, cL13, cL14, cL15, cL16, cL17, cL18, cL19, cL20, cL21, cL22, cL23, cL24, cL25, cL29, cL30, cL31, cL32, cL36, cL48, cL50, cL51, cL52, cL64, cL99, cL100, cL700, cL1000, cL9999, cL10000, cI_add, cI_sub, cI_mul, cI_neg, cI_lt, cI_le, cI_eq, ne_eq, ifp, ifn, bI_p, bI_n, aZ_0, aZ_1, aZ_b, e_gdt, e_ifT, e_ifF, not_true_eq_false, not_false_eq_true, e_gd, q1, q2, isBelow_eq, need_1, need_0]
      · simp (disch := omega) only [e_bi, e_bind, e_let, e_tr, e_tl, cLm1, cLm2, cL0, cL1, cL2, cL3, cL4, cL5, cL6, cL7, cL8, cL9, cL10, cL11, cL12, cL13, cL14, cL15, cL16, cL17, cL18, cL19, cL20, cL21, cL22, cL23, cL24, cL25, cL29, cL30, cL31, cL32, cL36, cL48, cL50, cL51, cL52, cL64, cL99, cL100, cL700, cL1000, cL9999, cL10000, cI_add, cI_sub, cI_mul, cI_neg, cI_lt, cI_le, cI_eq, ne_eq, ifp, ifn, bI_p, bI_n, aZ_0, aZ_1, aZ_b, e_gdt, e_ifT, e_ifF, not_true_eq_false, not_false_eq_true, e_gd, q1, q2, isBelow_eq, need_1, need_0]
    · simp (disch := omega) only [e_bi, e_bind, e_let, e_tr, e_tl, cLm1, cLm2, cL0, cL1, cL2, cL3, cL4, cL5, cL6, cL7, cL8, cL9, cL10, cL11, cL12, cL13, cL14, cL15, cL16, cL17, cL18, cL19, cL20, cL21, cL22, cL23, cL24, cL25, cL29, cL30, cL31, cL32, cL36, cL48, cL50, cL51, cL52, cL64, cL99, cL100, cL700, cL1000, cL9999, cL10000, cI_add, cI_sub, cI_mul, cI_neg, cI_lt, cI_le, cI_eq, ne_eq, ifp, ifn, bI_p, bI_n, aZ_0, aZ_1, aZ_b, e_gdt, e_ifT, e_ifF, not_true_eq_false, not_false_eq_true, e_gd, q1, q2, isBelow_eq, need_1, need_0]
theorem isPlace_eq {D : aD} {T : aT} {c h w : Int} (hp : TOKp T) (hM : MT D T) (c1 : -2147483648 ≤ c) (c2 : c < 2147483648) (h1 : -2147483648 ≤ h) (h2 : h < 2147483648) (w1 : -2147483648 ≤ w) (w2 : w < 2147483648) :
    (airT T c h w → f_X12_isPlace (cI c) (cI h) (cI w) D = some (cI 1, D)) ∧ (¬ airT T c h w → f_X12_isPlace (cI c) (cI h) (cI w) D = some (cI 0, D)) := by
  have hq := hp.1
  have q1 := (MT.two hM).1
  unfold airT f_X12_isPlace
  refine ⟨fun x => ?_, fun x => ?_⟩
  · simp (disch := omega) only [e_bi, e_bind, e_let, e_tr, e_tl, cLm1, cLm2, cL0, cL1, cL2, cL3, cL4, cL5, cL6, cL7, cL8, cL9, cL10, cL11, cL12, cL13, cL14, cL15, cL16, cL17, cL18, cL19, cL20, cL21, cL22, cL23, cL24, cL25, cL29, cL30, cL31, cL32, cL36, cL48, cL50, cL51, cL52, cL64, cL99, cL100, cL700, cL1000, cL9999, cL10000, cI_add, cI_sub, cI_mul, cI_neg, cI_lt, cI_le, cI_eq, ne_eq, ifp, ifn, bI_p, bI_n, aZ_0, aZ_1, aZ_b, e_gdt, e_ifT, e_ifF, not_true_eq_false, not_false_eq_true, e_gd, cX0, cX1, cX2, cX3, cX4, cX5, cX6, cX7, cX8, cX9, cX10, cX11, cX12, cX13, cX14, cX15, cX16, cX17, cX18, cX19, cX20, cX21, cX22, cX23, cX24, cX25, cX29, cX30, cX31, cX32, cX36, Int.reduceToNat, cI_inT, q1, isIn_eq]
  · by_cases x1 : 0 ≤ c ∧ c < T 0 0 * T 0 1
    · by_cases x2 : 0 ≤ h ∧ h < 24
      · simp (disch := omega) only [e_bi, e_bind, e_let, e_tr, e_tl, cLm1, cLm2, cL0, cL1, cL2, cL3, cL4, cL5, cL6, cL7, cL8, cL9, cL10, cL11, cL12, cL13, cL14, cL15, cL16, cL17, cL18, cL19, cL20, cL21, cL22, cL23, cL24, cL25, cL29, cL30, cL31, cL32, cL36, cL48, cL50, cL51, cL52, cL64, cL99, cL100, cL700, cL1000, cL9999, cL10000, cI_add, cI_sub, cI_mul, cI_neg, cI_lt, cI_le, cI_eq, ne_eq, ifp, ifn, bI_p, bI_n, aZ_0, aZ_1, aZ_b, e_gdt, e_ifT, e_ifF, not_true_eq_false, not_false_eq_true, e_gd, cX0, cX1, cX2, cX3, cX4, cX5, cX6, cX7, cX8, cX9, cX10, cX11, cX12, cX13, cX14, cX15, cX16, cX17, cX18, cX19, cX20, cX21, cX22, cX23, cX24, cX25, cX29, cX30, cX31, cX32, cX36, Int.reduceToNat, cI_inT, q1, isIn_eq]
      · simp (disch := omega) only [e_bi, e_bind, e_let, e_tr, e_tl, cLm1, cLm2, cL0, cL1, cL2, cL3, cL4, cL5, cL6, cL7, cL8, cL9, cL10, cL11, cL12, cL13, cL14, cL15, cL16, cL17, cL18, cL19, cL20, cL21, cL22, cL23, cL24, cL25, cL29, cL30, cL31, cL32, cL36, cL48, cL50, cL51, cL52, cL64, cL99, cL100, cL700, cL1000, cL9999, cL10000, cI_add, cI_sub, cI_mul, cI_neg, cI_lt, cI_le, cI_eq, ne_eq, ifp, ifn, bI_p, bI_n, aZ_0, aZ_1, aZ_b, e_gdt, e_ifT, e_ifF, not_true_eq_false, not_false_eq_true, e_gd, cX0, cX1, cX2, cX3, cX4, cX5, cX6, cX7, cX8, cX9, cX10, cX11, cX12, cX13, cX14, cX15, cX16, cX17, cX18, cX19, cX20, cX21, cX22, cX23, cX24, cX25, cX29, cX30, cX31, cX32, cX36, Int.reduceToNat, cI_inT, q1, isIn_eq]
    · simp (disch := omega) only [e_bi, e_bind, e_let, e_tr, e_tl, cLm1, cLm2, cL0, cL1, cL2, cL3, cL4, cL5, cL6, cL7, cL8, cL9, cL10, cL11, cL12, cL13, cL14, cL15, cL16, cL17, cL18, cL19, cL20, cL21, cL22, cL23, cL24, cL25, cL29, cL30, cL31, cL32, cL36, cL48, cL50, cL51, cL52, cL64, cL99, cL100, cL700, cL1000, cL9999, cL10000, cI_add, cI_sub, cI_mul, cI_neg, cI_lt, cI_le, cI_eq, ne_eq, ifp, ifn, bI_p, bI_n, aZ_0, aZ_1, aZ_b, e_gdt, e_ifT, e_ifF, not_true_eq_false, not_false_eq_true, e_gd, cX0, cX1, cX2, cX3, cX4, cX5, cX6, cX7, cX8, cX9, cX10, cX11, cX12, cX13, cX14, cX15, cX16, cX17, cX18, cX19, cX20, cX21, cX22, cX23, cX24, cX25, cX29, cX30, cX31, cX32, cX36, Int.reduceToNat, cI_inT, q1, isIn_eq]
/-- what the reference's cells of a place hold -/
def mPl (D : aD) (T : aT) (R O : Nat → Int) : Prop := (∀ j : Nat, j < 6 → gI D 108 j = cI (R j)) ∧ (∀ k : Nat, k < 30 → gI D 109 k = cI (O k)) ∧ (∀ s : Nat, (s : Int) < T 0 2 → gI D 110 s = cI (mkN T R s) ∧ gI D 111 s = cI (ntN T (mkN T R s)))
theorem zero_lp {β : Type} {D : aD} {a n : Nat} {body : Int32 × aD → Option ((Int32 × aD) ⊕ β)} {q : aD → β} {K : β → Prop} (hn : n ≤ 100000) (hb : ∀ (i : Nat) (D' : aD), i < n → body (cI (i : Int), D') = some (.inl (cI ((i : Int) + 1), pI D' a i (cI 0)))) (he : ∀ D' : aD, body (cI (n : Int), D') = some (.inr (q D')))
    (k : ∀ D' : aD, (∀ j : Nat, j < n → gI D' a j = cI 0) → (∀ k j : Nat, k ≠ a → gI D' k j = gI D k j) → D'.2 = D.2 → K (q D')) : Ok (aLp body (cI 0, D)) K := by
  refine ok_lp (fun i t => t.1 = cI (i : Int) ∧ (∀ j : Nat, j < i → gI t.2 a j = cI 0) ∧ (∀ k j : Nat, k ≠ a → gI t.2 k j = gI D k j) ∧ t.2.2 = D.2) n (by omega) ⟨rfl, fun j h => absurd h (by omega), fun _ _ _ => rfl, rfl⟩ ?_
  rintro i ⟨x, D1⟩ hi ⟨rfl, h1, h2, h3⟩
  by_cases c : i < n
  · rw [hb i D1 c]
    refine ok_someI (Or.inl ⟨_, rfl, c, rfl, fun j hj => ?_, fun k j hk => ?_, h3⟩)
    · show gI (pI D1 a i (cI 0)) a j = cI 0
      by_cases e : j = i
      · subst e; exact gI_eq
      · rw [gI_fr (by omega)]; exact h1 j (by omega)
    · show gI (pI D1 a i (cI 0)) k j = gI D k j
      rw [gI_fr (by omega)]; exact h2 k j hk
  · obtain rfl : i = n := by omega
    rw [he D1]
    exact ok_someI (Or.inr ⟨_, rfl, k D1 h1 h2 h3⟩)
theorem tell_ok {D : aD} {T : aT} {cell hour w : Int} (hp : TOKs T) (hM : MS D T) (h3 : 0 ≤ cell) (h4 : cell < T 0 0 * T 0 1) (u1 : 0 ≤ hour) (u2 : hour < 24) (h5 : 0 ≤ w) (h6 : w < 5) (hB : bB (rawN T cell hour w) (ownN T cell hour w)) :
    Ok (f_X12_tellPlace (cI cell) (cI hour) (cI w) D) (fun D' => mPl D' T (rawN T cell hour w) (ownN T cell hour w) ∧ (∀ k j : Nat, ¬ (108 ≤ k ∧ k ≤ 111) → gI D' k j = gI D k j) ∧ D'.2 = D.2) := by
  have hq := hp.1
  have hT := hp.2.2.2.2.2.1
  unfold f_X12_tellPlace J_X12_tellPlace_3
  refine ok_bindI (zero_lp (a := 108) (n := 6) (q := fun D => D) (by omega) (fun i D' hi => ?_) (fun D' => ?_) (fun D1 z1 y1 x1 => ?_))
  · show B_X12_tellPlace_3 (cI cell) (cI hour) (cI w) (cI (i : Int)) D' = _
    unfold B_X12_tellPlace_3
    have e : ((i : Int)).toNat = i := by omega
    simp (disch := omega) only [e_bi, e_bind, e_let, e_tr, e_tl, cLm1, cLm2, cL0, cL1, cL2, cL3, cL4, cL5, cL6, cL7, cL8, cL9, cL10, cL11, cL12, cL13, cL14, cL15, cL16, cL17, cL18, cL19, cL20, cL21, cL22, cL23, cL24, cL25, cL29, cL30, cL31, cL32, cL36, cL48, cL50, cL51, cL52, cL64, cL99, cL100, cL700, cL1000, cL9999, cL10000, cI_add, cI_sub, cI_mul, cI_neg, cI_lt, cI_le, cI_eq, ne_eq, ifp, ifn, bI_p, bI_n, aZ_0, aZ_1, aZ_b, e_gdt, e_ifT, e_ifF, not_true_eq_false, not_false_eq_true, e_gd, cI_inT, cI_nat, e]
  · rfl
  unfold J_X12_tellPlace_24 J_X12_tellPlace_27
  refine ok_bindI (zero_lp (a := 109) (n := 30) (q := fun D => D) (by omega) (fun i D' hi => ?_) (fun D' => ?_) (fun D2 z2 y2 x2 => ?_))
  · show B_X12_tellPlace_27 (cI cell) (cI hour) (cI w) (cI (i : Int)) D' = _
    unfold B_X12_tellPlace_27
    have e : ((i : Int)).toNat = i := by omega
    simp (disch := omega) only [e_bi, e_bind, e_let, e_tr, e_tl, cLm1, cLm2, cL0, cL1, cL2, cL3, cL4, cL5, cL6, cL7, cL8, cL9, cL10, cL11, cL12, cL13, cL14, cL15, cL16, cL17, cL18, cL19, cL20, cL21, cL22, cL23, cL24, cL25, cL29, cL30, cL31, cL32, cL36, cL48, cL50, cL51, cL52, cL64, cL99, cL100, cL700, cL1000, cL9999, cL10000, cI_add, cI_sub, cI_mul, cI_neg, cI_lt, cI_le, cI_eq, ne_eq, ifp, ifn, bI_p, bI_n, aZ_0, aZ_1, aZ_b, e_gdt, e_ifT, e_ifF, not_true_eq_false, not_false_eq_true, e_gd, cI_inT, cI_nat, e]
  · rfl
  unfold J_X12_tellPlace_48 J_X12_tellPlace_51
  refine ok_bindI (ok_lp (fun i t => t.1 = cI (i : Int) ∧ (∀ j : Nat, j < 6 → gI t.2 108 j = cI (acR (T 8) (fun p => smN T p cell hour w) i j)) ∧ (∀ k : Nat, k < 30 → gI t.2 109 k = cI (acO (T 8) (T 10) (fun p => smN T p cell hour w) i k)) ∧ (∀ k j : Nat, k ≠ 108 → k ≠ 109 → gI t.2 k j = gI D k j) ∧ t.2.2 = D.2) (T 0 4).toNat (by omega) ⟨rfl, fun j hj => (y2 108 j (by omega)).trans (z1 j hj), fun k hk => z2 k hk, fun k j a b => (y2 k j b).trans (y1 k j a), x2.trans x1⟩ ?_)
  · rintro i ⟨x, D3⟩ hi ⟨rfl, n1, n2, n3, n4⟩
    show Ok (B_X12_tellPlace_51 (cI cell) (cI hour) (cI w) (cI (i : Int)) D3) _
    have hM3 : MS D3 T := hM.fr (fun k j a => n3 k j (by omega) (by omega)) (fun j a b => n3 88 j (by omega) (by omega))
    have m30 := hM3.2.2.2.2.2.1
    have e : ((i : Int)).toNat = i := by omega
    by_cases c : (i : Int) < T 0 4
    · have r := hp.2.2.2.1 i c
      obtain ⟨r1, r2, r3, r4⟩ := MS.plt hM3 c
      have g1 := n1 (T 8 i).toNat (by omega)
      have ev : B_X12_tellPlace_51 (cI cell) (cI hour) (cI w) (cI (i : Int)) D3 = some (.inl (cI ((i : Int) + 1), if T 10 i = -1 then pI D3 108 (T 8 i).toNat (cI (acR (T 8) (fun p => smN T p cell hour w) i (T 8 i).toNat + smN T i cell hour w)) else pI (pI D3 108 (T 8 i).toNat (cI (acR (T 8) (fun p => smN T p cell hour w) i (T 8 i).toNat + smN T i cell hour w))) 109 (6 * T 10 i + T 8 i).toNat (cI (acO (T 8) (T 10) (fun p => smN T p cell hour w) i (6 * T 10 i + T 8 i).toNat + smN T i cell hour w)))) := by
        unfold B_X12_tellPlace_51
        by_cases c2 : T 10 i = -1
        · simp (disch := omega) only [e_bi, e_bind, e_let, e_tr, e_tl, cLm1, cLm2, cL0, cL1, cL2, cL3, cL4, cL5, cL6, cL7, cL8, cL9, cL10, cL11, cL12, cL13, cL14, cL15, cL16, cL17, cL18, cL19, cL20, cL21, cL22, cL23, cL24, cL25, cL29, cL30, cL31, cL32, cL36, cL48, cL50, cL51, cL52, cL64, cL99, cL100, cL700, cL1000, cL9999, cL10000, cI_add, cI_sub, cI_mul, cI_neg, cI_lt, cI_le, cI_eq, ne_eq, ifp, ifn, bI_p, bI_n, aZ_0, aZ_1, aZ_b, e_gdt, e_ifT, e_ifF, not_true_eq_false, not_false_eq_true, e_gd, m30, smellOf_eq hp hM3 c h3 h4 u1 u2 h5 h6, cI_inT, cI_nat, e, r1, r3, gI_fr, g1]
        · have g2 := n2 (6 * T 10 i + T 8 i).toNat (by omega)
          simp (disch := omega) only [e_bi, e_bind, e_let, e_tr, e_tl, cLm1, cLm2, cL0, cL1, cL2, cL3, cL4, cL5, cL6, cL7, cL8, cL9, cL10, cL11, cL12, cL13, cL14, cL15, cL16, cL17, cL18, cL19, cL20, cL21, cL22, cL23, cL24, cL25, cL29, cL30, cL31, cL32, cL36, cL48, cL50, cL51, cL52, cL64, cL99, cL100, cL700, cL1000, cL9999, cL10000, cI_add, cI_sub, cI_mul, cI_neg, cI_lt, cI_le, cI_eq, ne_eq, ifp, ifn, bI_p, bI_n, aZ_0, aZ_1, aZ_b, e_gdt, e_ifT, e_ifF, not_true_eq_false, not_false_eq_true, e_gd, m30, smellOf_eq hp hM3 c h3 h4 u1 u2 h5 h6, cI_inT, cI_nat, e, r1, r3, gI_fr, g1, g2]
      rw [ev]
      refine ok_someI (Or.inl ⟨_, rfl, by omega, rfl, fun j hj => ?_, fun k hk => ?_, fun k j a b => ?_, ?_⟩)
      · show gI (if T 10 i = -1 then _ else _) 108 j = cI (acR (T 8) (fun p => smN T p cell hour w) i j + if T 8 i = (j : Int) then smN T i cell hour w else 0)
        split
        · by_cases e : j = (T 8 i).toNat
          · subst e; rw [gI_eq, if_pos (by omega)]
          · rw [gI_fr (by omega), if_neg (by omega), Int.add_zero]; exact n1 j hj
        · rw [gI_fr (by omega)]
          by_cases e : j = (T 8 i).toNat
          · subst e; rw [gI_eq, if_pos (by omega)]
          · rw [gI_fr (by omega), if_neg (by omega), Int.add_zero]; exact n1 j hj
      · show gI (if T 10 i = -1 then _ else _) 109 k = cI (acO (T 8) (T 10) (fun p => smN T p cell hour w) i k + if T 10 i ≠ -1 ∧ T 10 i * 6 + T 8 i = (k : Int) then smN T i cell hour w else 0)
        by_cases c2 : T 10 i = -1
        · rw [if_pos c2, gI_fr (by omega), if_neg (fun z => z.1 c2), Int.add_zero]; exact n2 k hk
        · rw [if_neg c2]
          by_cases e : k = (6 * T 10 i + T 8 i).toNat
          · subst e; rw [gI_eq, if_pos ⟨c2, by omega⟩]
          · rw [gI_fr (by omega), gI_fr (by omega), if_neg (by omega), Int.add_zero]; exact n2 k hk
      · show gI (if T 10 i = -1 then _ else _) k j = gI D k j
        split
        · rw [gI_fr (by omega)]; exact n3 k j a b
        · rw [gI_fr (by omega), gI_fr (by omega)]; exact n3 k j a b
      · show (if T 10 i = -1 then _ else _ : aD).2 = D.2
        split <;> exact n4
    · have ev : B_X12_tellPlace_51 (cI cell) (cI hour) (cI w) (cI (i : Int)) D3 = some (.inr D3) := by
        unfold B_X12_tellPlace_51
        simp (disch := omega) only [e_bi, e_bind, e_let, e_tr, e_tl, cLm1, cLm2, cL0, cL1, cL2, cL3, cL4, cL5, cL6, cL7, cL8, cL9, cL10, cL11, cL12, cL13, cL14, cL15, cL16, cL17, cL18, cL19, cL20, cL21, cL22, cL23, cL24, cL25, cL29, cL30, cL31, cL32, cL36, cL48, cL50, cL51, cL52, cL64, cL99, cL100, cL700, cL1000, cL9999, cL10000, cI_add, cI_sub, cI_mul, cI_neg, cI_lt, cI_le, cI_eq, ne_eq, ifp, ifn, bI_p, bI_n, aZ_0, aZ_1, aZ_b, e_gdt, e_ifT, e_ifF, not_true_eq_false, not_false_eq_true, e_gd, m30]
      rw [ev]
      refine ok_someI (Or.inr ⟨_, rfl, ?_⟩)
      obtain rfl : i = (T 0 4).toNat := by omega
      unfold J_X12_tellPlace_133 J_X12_tellPlace_136
      have b1 : ∀ j : Nat, j < 6 → gI D3 108 j = cI (rawN T cell hour w j) := n1
      have b2 : ∀ k : Nat, k < 30 → gI D3 109 k = cI (ownN T cell hour w k) := n2
      refine ok_bindI (ok_lp (fun i t => t.1 = cI (i : Int) ∧ (∀ s : Nat, s < i → gI t.2 110 s = cI (mkN T (rawN T cell hour w) s) ∧ gI t.2 111 s = cI (ntN T (mkN T (rawN T cell hour w) s))) ∧ (∀ k j : Nat, k ≠ 110 → k ≠ 111 → gI t.2 k j = gI D3 k j) ∧ t.2.2 = D.2) (T 0 2).toNat (by omega) ⟨rfl, fun s h => absurd h (by omega), fun _ _ _ _ => rfl, n4⟩ ?_)
      rintro i ⟨x, D4⟩ hi ⟨rfl, w1, w2, w3⟩
      show Ok (B_X12_tellPlace_136 (cI (i : Int)) D4) _
      have m2 : gI D4 91 2 = cI (T 0 2) := (w2 _ _ (by omega) (by omega)).trans ((n3 _ _ (by omega) (by omega)).trans (hM.1 2 (by omega) (by omega)))
      have m9 : gI D4 91 9 = cI (T 0 9) := (w2 _ _ (by omega) (by omega)).trans ((n3 _ _ (by omega) (by omega)).trans (hM.1 9 (by omega) (by omega)))
      have e : ((i : Int)).toNat = i := by omega
      by_cases c : (i : Int) < T 0 2
      · have g1 : gI D4 108 i = cI (rawN T cell hour w i) := (w2 _ _ (by omega) (by omega)).trans (b1 i (by omega))
        have L : aLp (fun s : Int32 × Int32 × aD => B_X12_tellPlace_159 (cI (i : Int)) s.1 s.2.1 s.2.2) (cI (rawN T cell hour w i), cI 0, D4) = some (cI (rawN T cell hour w i - sgN (T 0 2).toNat (maN T (rawN T cell hour w) i)), D4) := by
          have h := lp_cnt (body := fun s : Int32 × Int32 × aD => B_X12_tellPlace_159 (cI (i : Int)) s.1 s.2.1 s.2.2) (T 0 2).toNat (by omega) (fun m => (cI (rawN T cell hour w i - sgN m (maN T (rawN T cell hour w) i)), cI (m : Int), D4)) (cI (rawN T cell hour w i - sgN (T 0 2).toNat (maN T (rawN T cell hour w) i)), D4) ?_ ?_
          · have e1 : rawN T cell hour w i - sgN 0 (maN T (rawN T cell hour w) i) = rawN T cell hour w i := by simp [sgN]
            have h' := h
            simp only [e1] at h'
            exact h'
          · intro m hm
            have m1 := ma_b (s := i) (m := m) hT hB (by omega) (by omega)
            have q1 : gI D4 108 m = cI (rawN T cell hour w m) := (w2 _ _ (by omega) (by omega)).trans (b1 m (by omega))
            have q2 : gI D4 103 (m * 6 + i) = cI (T 12 (m * 6 + i)) := (w2 _ _ (by omega) (by omega)).trans ((n3 _ _ (by omega) (by omega)).trans (hM.2.2.2.2.1 _ (by omega)))
            have e2 : (6 * (m : Int) + (i : Int)).toNat = m * 6 + i := by omega
            have e3 : ((m : Int)).toNat = m := by omega
            show B_X12_tellPlace_159 (cI (i : Int)) (cI (rawN T cell hour w i - sgN m (maN T (rawN T cell hour w) i))) (cI (m : Int)) D4 = _
            unfold B_X12_tellPlace_159
            simp (disch := omega) only [e_bi, e_bind, e_let, e_tr, e_tl, cLm1, cLm2, cL0, cL1, cL2, cL3, cL4, cL5, cL6, cL7, cL8, cL9, cL10, cL11, cL12, cL13, cL14, cL15, cL16, cL17, cL18, cL19, cL20, cL21, cL22, cL23, cL24, cL25, cL29, cL30, cL31, cL32, cL36, cL48, cL50, cL51, cL52, cL64, cL99, cL100, cL700, cL1000, cL9999, cL10000, cI_add, cI_sub, cI_mul, cI_neg, cI_lt, cI_le, cI_eq, ne_eq, ifp, ifn, bI_p, bI_n, aZ_0, aZ_1, aZ_b, e_gdt, e_ifT, e_ifF, not_true_eq_false, not_false_eq_true, e_gd, cX0, cX1, cX2, cX3, cX4, cX5, cX6, cX7, cX8, cX9, cX10, cX11, cX12, cX13, cX14, cX15, cX16, cX17, cX18, cX19, cX20, cX21, cX22, cX23, cX24, cX25, cX29, cX30, cX31, cX32, cX36, Int.reduceToNat, m2, cI_inT, cI_nat, e2, e3, q1, q2, cI_div]
            rw [sgN]
            unfold maN
            rw [← Int.sub_sub]
            rfl
          · show B_X12_tellPlace_159 (cI (i : Int)) (cI (rawN T cell hour w i - sgN (T 0 2).toNat (maN T (rawN T cell hour w) i))) (cI (((T 0 2).toNat : Nat) : Int)) D4 = _
            unfold B_X12_tellPlace_159
            simp (disch := omega) only [e_bi, e_bind, e_let, e_tr, e_tl, cLm1, cLm2, cL0, cL1, cL2, cL3, cL4, cL5, cL6, cL7, cL8, cL9, cL10, cL11, cL12, cL13, cL14, cL15, cL16, cL17, cL18, cL19, cL20, cL21, cL22, cL23, cL24, cL25, cL29, cL30, cL31, cL32, cL36, cL48, cL50, cL51, cL52, cL64, cL99, cL100, cL700, cL1000, cL9999, cL10000, cI_add, cI_sub, cI_mul, cI_neg, cI_lt, cI_le, cI_eq, ne_eq, ifp, ifn, bI_p, bI_n, aZ_0, aZ_1, aZ_b, e_gdt, e_ifT, e_ifF, not_true_eq_false, not_false_eq_true, e_gd, cX0, cX1, cX2, cX3, cX4, cX5, cX6, cX7, cX8, cX9, cX10, cX11, cX12, cX13, cX14, cX15, cX16, cX17, cX18, cX19, cX20, cX21, cX22, cX23, cX24, cX25, cX29, cX30, cX31, cX32, cX36, Int.reduceToNat, m2, cI_inT]
        have b := sg_b (f := maN T (rawN T cell hour w) i) (B := 4680) (T 0 2).toNat (fun m hm => ⟨(ma_b hT hB (by omega) (by omega)).2.2.1, (ma_b hT hB (by omega) (by omega)).2.2.2⟩)
        have r := hB.1 i (by omega)
        have mk := mk_b (s := i) hT (by omega) hB (by omega)
        have ev : B_X12_tellPlace_136 (cI (i : Int)) D4 = some (.inl (cI ((i : Int) + 1), pI (pI D4 110 i (cI (mkN T (rawN T cell hour w) i))) 111 i (cI (ntN T (mkN T (rawN T cell hour w) i))))) := by
          unfold B_X12_tellPlace_136 J_X12_tellPlace_159
          have L' := L
          rw [show (cI 0 : Int32) = 0 from rfl] at L'
          simp (disch := omega) only [e_let, e_gd, e_gdt, cL2, cX2, m2, cI_inT, cI_le, cI_nat, e, g1, ifn]
          rw [L', e_bind]
          unfold J_X12_tellPlace_205
          have mx := cI_mx (e := rawN T cell hour w i - sgN (T 0 2).toNat (maN T (rawN T cell hour w) i)) (by omega) (by omega)
          dsimp only
          rw [mx]
          rw [show mxI (rawN T cell hour w i - sgN (T 0 2).toNat (maN T (rawN T cell hour w) i)) = mkN T (rawN T cell hour w) i from rfl]
          unfold ntN
          by_cases c9 : mkN T (rawN T cell hour w) i < T 0 9
          · simp (disch := omega) only [e_bi, e_bind, e_let, e_tr, e_tl, cLm1, cLm2, cL0, cL1, cL2, cL3, cL4, cL5, cL6, cL7, cL8, cL9, cL10, cL11, cL12, cL13, cL14, cL15, cL16, cL17, cL18, cL19, cL20, cL21, cL22, cL23, cL24, cL25, cL29, cL30, cL31, cL32, cL36, cL48, cL50, cL51, cL52, cL64, cL99, cL100, cL700, cL1000, cL9999, cL10000, cI_add, cI_sub, cI_mul, cI_neg, cI_lt, cI_le, cI_eq, ne_eq, ifp, ifn, bI_p, bI_n, aZ_0, aZ_1, aZ_b, e_gdt, e_ifT, e_ifF, not_true_eq_false, not_false_eq_true, e_gd, cX0, cX1, cX2, cX3, cX4, cX5, cX6, cX7, cX8, cX9, cX10, cX11, cX12, cX13, cX14, cX15, cX16, cX17, cX18, cX19, cX20, cX21, cX22, cX23, cX24, cX25, cX29, cX30, cX31, cX32, cX36, Int.reduceToNat, m2, m9, cI_inT, cI_nat, e, gI_fr, gI_eq]
          · simp (disch := omega) only [e_bi, e_bind, e_let, e_tr, e_tl, cLm1, cLm2, cL0, cL1, cL2, cL3, cL4, cL5, cL6, cL7, cL8, cL9, cL10, cL11, cL12, cL13, cL14, cL15, cL16, cL17, cL18, cL19, cL20, cL21, cL22, cL23, cL24, cL25, cL29, cL30, cL31, cL32, cL36, cL48, cL50, cL51, cL52, cL64, cL99, cL100, cL700, cL1000, cL9999, cL10000, cI_add, cI_sub, cI_mul, cI_neg, cI_lt, cI_le, cI_eq, ne_eq, ifp, ifn, bI_p, bI_n, aZ_0, aZ_1, aZ_b, e_gdt, e_ifT, e_ifF, not_true_eq_false, not_false_eq_true, e_gd, cX0, cX1, cX2, cX3, cX4, cX5, cX6, cX7, cX8, cX9, cX10, cX11, cX12, cX13, cX14, cX15, cX16, cX17, cX18, cX19, cX20, cX21, cX22, cX23, cX24, cX25, cX29, cX30, cX31, cX32, cX36, Int.reduceToNat, m2, m9, cI_inT, cI_nat, e, gI_fr, gI_eq]
        rw [ev]
        refine ok_someI (Or.inl ⟨_, rfl, by omega, rfl, fun s hs => ?_, fun k j a b => ?_, w3⟩)
        · show gI (pI (pI D4 110 i _) 111 i _) 110 s = _ ∧ gI (pI (pI D4 110 i _) 111 i _) 111 s = _
          by_cases e : s = i
          · subst e; exact ⟨(gI_fr (by omega)).trans gI_eq, gI_eq⟩
          · rw [gI_fr (by omega), gI_fr (by omega), gI_fr (by omega), gI_fr (by omega)]; exact w1 s (by omega)
        · show gI (pI (pI D4 110 i _) 111 i _) k j = _
          rw [gI_fr (by omega), gI_fr (by omega)]; exact w2 k j a b
      · have ev : B_X12_tellPlace_136 (cI (i : Int)) D4 = some (.inr D4) := by
          unfold B_X12_tellPlace_136
          simp (disch := omega) only [e_bi, e_bind, e_let, e_tr, e_tl, cLm1, cLm2, cL0, cL1, cL2, cL3, cL4, cL5, cL6, cL7, cL8, cL9, cL10, cL11, cL12, cL13, cL14, cL15, cL16, cL17, cL18, cL19, cL20, cL21, cL22, cL23, cL24, cL25, cL29, cL30, cL31, cL32, cL36, cL48, cL50, cL51, cL52, cL64, cL99, cL100, cL700, cL1000, cL9999, cL10000, cI_add, cI_sub, cI_mul, cI_neg, cI_lt, cI_le, cI_eq, ne_eq, ifp, ifn, bI_p, bI_n, aZ_0, aZ_1, aZ_b, e_gdt, e_ifT, e_ifF, not_true_eq_false, not_false_eq_true, e_gd, cX0, cX1, cX2, cX3, cX4, cX5, cX6, cX7, cX8, cX9, cX10, cX11, cX12, cX13, cX14, cX15, cX16, cX17, cX18, cX19, cX20, cX21, cX22, cX23, cX24, cX25, cX29, cX30, cX31, cX32, cX36, Int.reduceToNat, m2, cI_inT]
        rw [ev]
        refine ok_someI (Or.inr ⟨_, rfl, ok_someI ⟨⟨fun j hj => (w2 _ _ (by omega) (by omega)).trans (b1 j hj), fun k hk => (w2 _ _ (by omega) (by omega)).trans (b2 k hk), fun s hs => w1 s (by omega)⟩, fun k j a => (w2 k j (by omega) (by omega)).trans (n3 k j (by omega) (by omega)), w3⟩⟩)
theorem mmarkOf_eq {D : aD} {T : aT} {R O : Nat → Int} {g : Nat} (hp : TOKs T) (hM : MS D T) (hN : mPl D T R O) (hB : bB R O) (hg : g < 5) : f_X12_markOf (cI (g : Int)) D = some (cI (mrN T R O g), D) := by
  have hq := hp.1
  have hT := hp.2.2.2.2.2.1
  have m2 := hM.1 2 (by omega) (by omega)
  have L : aLp (fun t : Int32 × Int32 × aD => B_X12_markOf_4 (cI (g : Int)) t.1 t.2.1 t.2.2) (cI 0, cI 0, D) = some (cI (mrN T R O g), D) := by
    refine lp_cnt (body := fun t : Int32 × Int32 × aD => B_X12_markOf_4 (cI (g : Int)) t.1 t.2.1 t.2.2) (T 0 2).toNat (by omega) (fun i => (cI (sgN i (lkN T R O g)), cI (i : Int), D)) (cI (mrN T R O g), D) ?_ ?_
    · intro i hi
      have m := mk_b (s := i) hT (by omega) hB (by omega)
      have r := hB.1 i (by omega)
      have n := nt_b (T := T) m.1 (show mkN T R i ≤ 4680 by omega)
      have n1 := hN.1 i (by omega)
      have n2 := hN.2.1 (g * 6 + i) (by omega)
      have n3 := (hN.2.2 i (by omega)).2
      have b := hB.2 g i hg (by omega)
      have c := mulB n.1 n.2 b.1 (show O (g * 6 + i) ≤ 4680 by omega)
      obtain ⟨-, -, -, -, -, s6, -⟩ := MS.srt hM (s := i) (by omega)
      have e2 : (6 * (g : Int) + (i : Int)).toNat = g * 6 + i := by omega
      have e3 : ((i : Int)).toNat = i := by omega
      show B_X12_markOf_4 (cI (g : Int)) (cI (sgN i (lkN T R O g))) (cI (i : Int)) D = _
      rw [sgN]
      unfold B_X12_markOf_4 lkN lsN
      by_cases x : R i = 0
      · simp (disch := omega) only [e_bi, e_bind, e_let, e_tr, e_tl, cLm1, cLm2, cL0, cL1, cL2, cL3, cL4, cL5, cL6, cL7, cL8, cL9, cL10, cL11, cL12, cL13, cL14, cL15, cL16, cL17, cL18, cL19, cL20, cL21, cL22, cL23, cL24, cL25, cL29, cL30, cL31, cL32, cL36, cL48, cL50, cL51, cL52, cL64, cL99, cL100, cL700, cL1000, cL9999, cL10000, cI_add, cI_sub, cI_mul, cI_neg, cI_lt, cI_le, cI_eq, ne_eq, ifp, ifn, bI_p, bI_n, aZ_0, aZ_1, aZ_b, e_gdt, e_ifT, e_ifF, not_true_eq_false, not_false_eq_true, e_gd, cX0, cX1, cX2, cX3, cX4, cX5, cX6, cX7, cX8, cX9, cX10, cX11, cX12, cX13, cX14, cX15, cX16, cX17, cX18, cX19, cX20, cX21, cX22, cX23, cX24, cX25, cX29, cX30, cX31, cX32, cX36, Int.reduceToNat, m2, cI_inT, cI_nat, e2, e3, n1]
        rfl
      · simp (disch := omega) only [e_bi, e_bind, e_let, e_tr, e_tl, cLm1, cLm2, cL0, cL1, cL2, cL3, cL4, cL5, cL6, cL7, cL8, cL9, cL10, cL11, cL12, cL13, cL14, cL15, cL16, cL17, cL18, cL19, cL20, cL21, cL22, cL23, cL24, cL25, cL29, cL30, cL31, cL32, cL36, cL48, cL50, cL51, cL52, cL64, cL99, cL100, cL700, cL1000, cL9999, cL10000, cI_add, cI_sub, cI_mul, cI_neg, cI_lt, cI_le, cI_eq, ne_eq, ifp, ifn, bI_p, bI_n, aZ_0, aZ_1, aZ_b, e_gdt, e_ifT, e_ifF, not_true_eq_false, not_false_eq_true, e_gd, cX0, cX1, cX2, cX3, cX4, cX5, cX6, cX7, cX8, cX9, cX10, cX11, cX12, cX13, cX14, cX15, cX16, cX17, cX18, cX19, cX20, cX21, cX22, cX23, cX24, cX25, cX29, cX30, cX31, cX32, cX36, Int.reduceToNat, m2, cI_inT, cI_nat, e2, e3, n1, n2, n3, s6, aNz_c, cI_div]
        rfl
    · show B_X12_markOf_4 (cI (g : Int)) (cI (sgN (T 0 2).toNat (lkN T R O g))) (cI (((T 0 2).toNat : Nat) : Int)) D = _
      unfold B_X12_markOf_4
      simp (disch := omega) only [e_bi, e_bind, e_let, e_tr, e_tl, cLm1, cLm2, cL0, cL1, cL2, cL3, cL4, cL5, cL6, cL7, cL8, cL9, cL10, cL11, cL12, cL13, cL14, cL15, cL16, cL17, cL18, cL19, cL20, cL21, cL22, cL23, cL24, cL25, cL29, cL30, cL31, cL32, cL36, cL48, cL50, cL51, cL52, cL64, cL99, cL100, cL700, cL1000, cL9999, cL10000, cI_add, cI_sub, cI_mul, cI_neg, cI_lt, cI_le, cI_eq, ne_eq, ifp, ifn, bI_p, bI_n, aZ_0, aZ_1, aZ_b, e_gdt, e_ifT, e_ifF, not_true_eq_false, not_false_eq_true, e_gd, cX0, cX1, cX2, cX3, cX4, cX5, cX6, cX7, cX8, cX9, cX10, cX11, cX12, cX13, cX14, cX15, cX16, cX17, cX18, cX19, cX20, cX21, cX22, cX23, cX24, cX25, cX29, cX30, cX31, cX32, cX36, Int.reduceToNat, m2, cI_inT]
      rfl
  unfold f_X12_markOf J_X12_markOf_4
  have L' := L
  rw [show (cI 0 : Int32) = 0 from rfl] at L'
  rw [L', e_bind]
  rfl
theorem TOKs.raw {T : aT} {cell hour w : Int} (hp : TOKp T) (h3 : 0 ≤ cell) (h4 : cell < T 0 0 * T 0 1) : bB (rawN T cell hour w) (ownN T cell hour w) := raw_b hp h3 h4
theorem step_9 {D : aD} {v1 v2 v3 v4 v5 : Int32} (h : lawP D) : Ok2 (f_law_9 v1 v2 v3 v4 v5 D) (fun r D => r = 1 ∧ lawP D) := by
  obtain ⟨T, K, L, B, H⟩ := h
  have ⟨hp, hn, hC, hN, hM, hR, _⟩ := H
  have hq := hp.1
  obtain ⟨a, rfl, ha1, ha2⟩ := cI_of v1
  obtain ⟨c, rfl, hc1, hc2⟩ := cI_of v2
  obtain ⟨h, rfl, hh1, hh2⟩ := cI_of v3
  obtain ⟨w, rfl, hw1, hw2⟩ := cI_of v4
  unfold f_law_9 f_L_smell
  obtain ⟨-, -, q3, -⟩ := CP.two hC
  have fr2 : ∀ D x, rel T K L B D → rel T K L B (pI (pI D 88 2 (cI 0)) 88 2 x) := fun D x H => H.fr (fun k j _ b => (fr_code k j b).trans (fr_code k j b))
  by_cases x1 : 0 ≤ a ∧ a < T 0 4
  · by_cases x2 : airT T c h w
    · have x2' := x2
      unfold airT at x2'
      have ea : a = ((a.toNat : Nat) : Int) := by omega
      refine hp_step (fc := f_X11_smell (cI a) (cI c) (cI h) (cI w) D) (fm := fun D => f_X12_smell (cI a) (cI c) (cI h) (cI w) D) (P := lawP) (C := rel T K L B) (some (cI (smN T a.toNat c h w))) (fun D x h => h) ?_ (fun D H => ?_)
      · have e1 := plantScent_eq (p := a.toNat) hp hn hC hN (by omega) x2'.1 x2'.2.1 x2'.2.2.1 x2'.2.2.2.1 x2'.2.2.2.2.1 x2'.2.2.2.2.2
        rw [← ea] at e1
        unfold f_X11_smell
        simp (disch := omega) only [e_bi, e_bind, e_let, e_tr, e_tl, cLm1, cLm2, cL0, cL1, cL2, cL3, cL4, cL5, cL6, cL7, cL8, cL9, cL10, cL11, cL12, cL13, cL14, cL15, cL16, cL17, cL18, cL19, cL20, cL21, cL22, cL23, cL24, cL25, cL29, cL30, cL31, cL32, cL36, cL48, cL50, cL51, cL52, cL64, cL99, cL100, cL700, cL1000, cL9999, cL10000, cI_add, cI_sub, cI_mul, cI_neg, cI_lt, cI_le, cI_eq, ne_eq, ifp, ifn, bI_p, bI_n, aZ_0, aZ_1, aZ_b, e_gdt, e_ifT, e_ifF, not_true_eq_false, not_false_eq_true, e_gd, q3, isBelow_eq, need_1, (needAir_eq hp hC hc1 hc2 hh1 hh2 hw1 hw2).1 x2, e1]
        exact ok_someI ⟨rfl, H⟩
      · have H0 : rel T K L B (pI D 88 2 (cI 0)) := H.fr (fun k j _ b => fr_code k j b)
        have hM0 := H0.2.2.2.2.1
        have e1 := smellOf_eq (p := a.toNat) (TOKs.of hp hn) (MS.of hM0 H0.2.2.2.2.2.1) (by omega) x2'.1 x2'.2.1 x2'.2.2.1 x2'.2.2.2.1 x2'.2.2.2.2.1 x2'.2.2.2.2.2
        rw [← ea] at e1
        unfold f_X12_smell
        simp (disch := omega) only [e_bi, e_bind, e_let, e_tr, e_tl, cLm1, cLm2, cL0, cL1, cL2, cL3, cL4, cL5, cL6, cL7, cL8, cL9, cL10, cL11, cL12, cL13, cL14, cL15, cL16, cL17, cL18, cL19, cL20, cL21, cL22, cL23, cL24, cL25, cL29, cL30, cL31, cL32, cL36, cL48, cL50, cL51, cL52, cL64, cL99, cL100, cL700, cL1000, cL9999, cL10000, cI_add, cI_sub, cI_mul, cI_neg, cI_lt, cI_le, cI_eq, ne_eq, ifp, ifn, bI_p, bI_n, aZ_0, aZ_1, aZ_b, e_gdt, e_ifT, e_ifF, not_true_eq_false, not_false_eq_true, e_gd, isPlant_eq hp hM0, (isPlace_eq hp hM0 hc1 hc2 hh1 hh2 hw1 hw2).1 x2, e1]
        exact ok_someI ⟨⟨gI_eq, rfl⟩, rfl, T, K, L, B, H0⟩
    · refine hp_step (fc := f_X11_smell (cI a) (cI c) (cI h) (cI w) D) (fm := fun D => f_X12_smell (cI a) (cI c) (cI h) (cI w) D) (P := lawP) (C := rel T K L B) none (fun D x h => h) ?_ (fun D H => ?_)
      · unfold f_X11_smell
        simp (disch := omega) only [e_bi, e_bind, e_let, e_tr, e_tl, cLm1, cLm2, cL0, cL1, cL2, cL3, cL4, cL5, cL6, cL7, cL8, cL9, cL10, cL11, cL12, cL13, cL14, cL15, cL16, cL17, cL18, cL19, cL20, cL21, cL22, cL23, cL24, cL25, cL29, cL30, cL31, cL32, cL36, cL48, cL50, cL51, cL52, cL64, cL99, cL100, cL700, cL1000, cL9999, cL10000, cI_add, cI_sub, cI_mul, cI_neg, cI_lt, cI_le, cI_eq, ne_eq, ifp, ifn, bI_p, bI_n, aZ_0, aZ_1, aZ_b, e_gdt, e_ifT, e_ifF, not_true_eq_false, not_false_eq_true, e_gd, q3, isBelow_eq, need_1, (needAir_eq hp hC hc1 hc2 hh1 hh2 hw1 hw2).2 x2]
        exact ok_someI ⟨rfl, H⟩
      · have H0 : rel T K L B (pI D 88 2 (cI 0)) := H.fr (fun k j _ b => fr_code k j b)
        have hM0 := H0.2.2.2.2.1
        unfold f_X12_smell
        simp (disch := omega) only [e_bi, e_bind, e_let, e_tr, e_tl, cLm1, cLm2, cL0, cL1, cL2, cL3, cL4, cL5, cL6, cL7, cL8, cL9, cL10, cL11, cL12, cL13, cL14, cL15, cL16, cL17, cL18, cL19, cL20, cL21, cL22, cL23, cL24, cL25, cL29, cL30, cL31, cL32, cL36, cL48, cL50, cL51, cL52, cL64, cL99, cL100, cL700, cL1000, cL9999, cL10000, cI_add, cI_sub, cI_mul, cI_neg, cI_lt, cI_le, cI_eq, ne_eq, ifp, ifn, bI_p, bI_n, aZ_0, aZ_1, aZ_b, e_gdt, e_ifT, e_ifF, not_true_eq_false, not_false_eq_true, e_gd, isPlant_eq hp hM0, (isPlace_eq hp hM0 hc1 hc2 hh1 hh2 hw1 hw2).2 x2, fail_eq]
        exact ok_someI ⟨gI_eq, rfl, T, K, L, B, fr2 _ _ H⟩
  · refine hp_step (fc := f_X11_smell (cI a) (cI c) (cI h) (cI w) D) (fm := fun D => f_X12_smell (cI a) (cI c) (cI h) (cI w) D) (P := lawP) (C := rel T K L B) none (fun D x h => h) ?_ (fun D H => ?_)
    · unfold f_X11_smell
      simp (disch := omega) only [e_bi, e_bind, e_let, e_tr, e_tl, cLm1, cLm2, cL0, cL1, cL2, cL3, cL4, cL5, cL6, cL7, cL8, cL9, cL10, cL11, cL12, cL13, cL14, cL15, cL16, cL17, cL18, cL19, cL20, cL21, cL22, cL23, cL24, cL25, cL29, cL30, cL31, cL32, cL36, cL48, cL50, cL51, cL52, cL64, cL99, cL100, cL700, cL1000, cL9999, cL10000, cI_add, cI_sub, cI_mul, cI_neg, cI_lt, cI_le, cI_eq, ne_eq, ifp, ifn, bI_p, bI_n, aZ_0, aZ_1, aZ_b, e_gdt, e_ifT, e_ifF, not_true_eq_false, not_false_eq_true, e_gd, q3, isBelow_eq, need_0]
      exact ok_someI ⟨rfl, H⟩
    · have H0 : rel T K L B (pI D 88 2 (cI 0)) := H.fr (fun k j _ b => fr_code k j b)
      have hM0 := H0.2.2.2.2.1
      unfold f_X12_smell
      simp (disch := omega) only [e_bi, e_bind, e_let, e_tr, e_tl, cLm1, cLm2, cL0, cL1, cL2, cL3, cL4, cL5, cL6, cL7, cL8, cL9, cL10, cL11, cL12, cL13, cL14, cL15, cL16, cL17, cL18, cL19, cL20, cL21, cL22, cL23, cL24, cL25, cL29, cL30, cL31, cL32, cL36, cL48, cL50, cL51, cL52, cL64, cL99, cL100, cL700, cL1000, cL9999, cL10000, cI_add, cI_sub, cI_mul, cI_neg, cI_lt, cI_le, cI_eq, ne_eq, ifp, ifn, bI_p, bI_n, aZ_0, aZ_1, aZ_b, e_gdt, e_ifT, e_ifF, not_true_eq_false, not_false_eq_true, e_gd, isPlant_eq hp hM0, fail_eq]
      exact ok_someI ⟨gI_eq, rfl, T, K, L, B, fr2 _ _ H⟩
end PLC
