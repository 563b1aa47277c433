/-! fair: differences on both sides -/
section FAR
def mkV (T : aT) (w i g d : Nat) : Int := if (d : Int) < T 0 3 then mrN T (rawN T (T 11 g) (hrN T i) w) (ownN T (T 11 g) (hrN T i) w) d else 0
def mkD (D : aD) (T : aT) (P : Nat → Nat → Nat → Prop) : Prop := ∀ w i g d : Nat, P w i g → w < 5 → 0 < T 0 (10 + w) → (i : Int) < T 0 5 → (g : Int) < T 0 5 → d < 5 → gI D 78 (((w * 5 + i) * 5 + g) * 5 + d) = cI (mkV T w i g d)
theorem mkV_b {T : aT} {w i g d : Nat} (hp : TOKp T) (hg : (g : Int) < T 0 5) (hd : d < 5) : -252720 ≤ mkV T w i g d ∧ mkV T w i g d ≤ 252720 := by
  have hq := hp.1
  have g' := hp.2.2.2.2.1 g hg
  have h := mr_b (T := T) (g := d) hp.2.2.2.2.2 (by omega) (fun s hs => by have := hp.2.2.1 s hs; omega) (raw_b (hour := hrN T i) (w := (w : Int)) hp g'.1 g'.2) hd
  unfold mkV
  split <;> omega
theorem keep_ok {D : aD} {T : aT} {w i g : Nat} {P : Nat → Nat → Nat → Prop} (hp : TOKp T) (hC : CP D 2 T) (hw : w < 5) (hi : (i : Int) < T 0 5) (hg : (g : Int) < T 0 5) (hN : bN D (rawN T (T 11 g) (hrN T i) w) (ownN T (T 11 g) (hrN T i) w)) (hD : mkD D T P) :
    Ok (f_X2_keepMarks (cI ((((w : Int) * 5 + i) * 5 + g) * 5)) D) (fun D' => mkD D' T (fun w' i' g' => P w' i' g' ∨ (w' = w ∧ i' = i ∧ g' = g)) ∧ ∀ k j : Nat, k ≠ 77 → k ≠ 78 → gI D' k j = gI D k j) := by
  have hq := hp.1
  have gq := hp.2.2.2.2.1 g hg
  unfold f_X2_keepMarks
  refine ok_bindI ((fill_ok (by omega)).mono fun D1 z => ?_)
  obtain ⟨z1, z2, -⟩ := z
  have hC1 : CP D1 2 T := hC.fr hp (fun k j hk => z2 _ j (by omega))
  have hN1 : bN D1 (rawN T (T 11 g) (hrN T i) w) (ownN T (T 11 g) (hrN T i) w) := hN.fr (fun j => z2 _ j (by omega)) (fun j => z2 _ j (by omega))
  refine ok_bindI ((addMarks_ok (U := fun _ => 0) (Or.inr rfl) hp hC1 hN1 (raw_b hp gq.1 gq.2) (fun g hg => z1 g hg)).mono fun D2 q => ?_)
  obtain ⟨q1, q2⟩ := q
  rw [show ((0 : Int32)) = cI 0 from rfl, show ((5 : Int32)) = cI 5 from rfl]
  simp (disch := omega) only [e_gd, e_gdt, e_let, cg_c]
  refine ok_someI ⟨fun w' i' g' d hP a1 a2 a3 a4 a5 => ?_, fun k j a b => ?_⟩
  · rw [gI_cp (by omega) (by omega) (by omega) (by omega) (by omega) (by omega)]
    by_cases y : w' = w ∧ i' = i ∧ g' = g
    · obtain ⟨rfl, rfl, rfl⟩ := y
      rw [if_pos ⟨rfl, by omega, by omega⟩, show (0 : Int).toNat + (((w' * 5 + i') * 5 + g') * 5 + d - ((((w' : Int) * 5 + i') * 5 + g') * 5).toNat) = d by omega, q1 d a5, Int.zero_add]
      rfl
    · rw [if_neg (by omega), q2 _ _ (by omega), z2 _ _ (by omega)]
      rcases hP with hP | hP
      · exact hD w' i' g' d hP a1 a2 a3 a4 a5
      · exact absurd hP y
  · rw [cp_N b, q2 _ _ a, z2 _ _ (by omega)]
theorem markAll_ok {D : aD} {T : aT} (hp : TOKp T) (hn : TOKn T) (hC : CP D 2 T) (hN : CNow D T) :
    Ok (f_X2_markAll D) (fun D' => mkD D' T (fun _ _ _ => True) ∧ ∀ k j : Nat, ¬ (k = 58 ∨ k = 59 ∨ k = 77 ∨ k = 78) → gI D' k j = gI D k j) := by
  have hq := hp.1
  have hq2 := hn.1
  unfold f_X2_markAll J_X2_markAll_2
  refine ok_bindI (ok_lp (fun w t => t.1 = cI (w : Int) ∧ mkD t.2 T (fun w' _ _ => w' < w) ∧ ∀ k j : Nat, ¬ (k = 58 ∨ k = 59 ∨ k = 77 ∨ k = 78) → gI t.2 k j = gI D k j) 5 (by omega) ⟨rfl, fun w i g d a => absurd a (by omega), fun _ _ _ => rfl⟩ ?_)
  rintro w ⟨x, D1⟩ hw ⟨rfl, f1, f2⟩
  show Ok (B_X2_markAll_2 (cI (w : Int)) D1) _
  unfold B_X2_markAll_2
  by_cases c : w < 5
  · have a := hp.2.1 w c
    simp (disch := omega) only [e_bi, e_bind, e_let, e_tr, e_tl, cLm1, cLm2, cL0, cL1, cL2, cL3, cL4, cL5, cL6, cL7, cL8, cL9, cL10, cL11, cL12, cL13, cL14, cL15, cL16, cL17, cL18, cL19, cL20, cL21, cL22, cL23, cL24, cL25, cL29, cL30, cL31, cL32, cL36, cL48, cL50, cL51, cL52, cL64, cL99, cL100, cL700, cL1000, cL9999, cL10000, cI_add, cI_sub, cI_mul, cI_neg, cI_lt, cI_le, cI_eq, ne_eq, ifp, ifn, bI_p, bI_n, aZ_0, aZ_1, aZ_b, e_gdt, e_ifT, e_ifF, not_true_eq_false, not_false_eq_true, e_gd]
    unfold J_X2_markAll_9
    refine ok_bindI (ok_lp (fun i t => t.1 = cI (i : Int) ∧ mkD t.2 T (fun w' i' _ => w' < w ∨ (w' = w ∧ i' < i)) ∧ ∀ k j : Nat, ¬ (k = 58 ∨ k = 59 ∨ k = 77 ∨ k = 78) → gI t.2 k j = gI D k j) (T 0 5).toNat (by omega) ⟨rfl, fun w' i g d a => f1 w' i g d (by omega), f2⟩ ?_)
    rintro i ⟨x, D2⟩ hi ⟨rfl, g1, g2⟩
    show Ok (B_X2_markAll_9 (cI (w : Int)) (cI (i : Int)) D2) _
    have g2' : ∀ k j : Nat, ¬ (k = 58 ∨ k = 59 ∨ k = 77 ∨ k = 78) → gI D2 k j = gI D k j := g2
    obtain ⟨hC2, hN2⟩ := cF hp hC hN (D' := D2) (fun k j hk => g2' k j (by omega))
    obtain ⟨-, -, p3, q4, -⟩ := CP.two hC2
    have p5 := p3 5 (by omega) (by omega)
    have qw := q4 w c
    have ew : ((w : Int)).toNat = w := by omega
    unfold B_X2_markAll_9
    by_cases d : 0 < T 0 (10 + w)
    · by_cases y : (i : Int) < T 0 5
      · simp (disch := omega) only [e_bi, e_bind, e_let, e_tr, e_tl, cLm1, cLm2, cL0, cL1, cL2, cL3, cL4, cL5, cL6, cL7, cL8, cL9, cL10, cL11, cL12, cL13, cL14, cL15, cL16, cL17, cL18, cL19, cL20, cL21, cL22, cL23, cL24, cL25, cL29, cL30, cL31, cL32, cL36, cL48, cL50, cL51, cL52, cL64, cL99, cL100, cL700, cL1000, cL9999, cL10000, cI_add, cI_sub, cI_mul, cI_neg, cI_lt, cI_le, cI_eq, ne_eq, ifp, ifn, bI_p, bI_n, aZ_0, aZ_1, aZ_b, e_gdt, e_ifT, e_ifF, not_true_eq_false, not_false_eq_true, e_gd, cI_inT, cI_nat, ew, qw, p5]
        unfold J_X2_markAll_34
        refine ok_bindI (ok_lp (fun g t => t.1 = cI (g : Int) ∧ mkD t.2 T (fun w' i' g' => w' < w ∨ (w' = w ∧ (i' < i ∨ (i' = i ∧ g' < g)))) ∧ ∀ k j : Nat, ¬ (k = 58 ∨ k = 59 ∨ k = 77 ∨ k = 78) → gI t.2 k j = gI D k j) (T 0 5).toNat (by omega) ⟨rfl, fun w' i' g d a => g1 w' i' g d (by omega), g2⟩ ?_)
        rintro g ⟨x, D3⟩ hg ⟨rfl, m1, m2⟩
        show Ok (B_X2_markAll_34 (cI (w : Int)) (cI (i : Int)) (cI (g : Int)) D3) _
        have m2' : ∀ k j : Nat, ¬ (k = 58 ∨ k = 59 ∨ k = 77 ∨ k = 78) → gI D3 k j = gI D k j := m2
        obtain ⟨hC3, hN3⟩ := cF hp hC hN (D' := D3) (fun k j hk => m2' k j (by omega))
        obtain ⟨-, -, s3, -, -, -, -, -, s11, -⟩ := CP.two hC3
        obtain ⟨-, -, -, -, -, -, -, r150, -, -⟩ := CNow.two hN3
        have s5 := s3 5 (by omega) (by omega)
        have eg : ((g : Int)).toNat = g := by omega
        unfold B_X2_markAll_34
        by_cases z : (g : Int) < T 0 5
        · have a11 := s11 g z
          have gt := hp.2.2.2.2.1 g z
          have hr := hr_b (T := T) (i := i) hq2.1
          have hr' := hr
          unfold hrN at hr'
          have f := fillB_ok (hour := hrN T i) (w := (w : Int)) hp hn hC3 hN3 gt.1 gt.2 hr.1 hr.2 (by omega) (by omega)
          unfold f_X2_placeOf
          simp (disch := omega) only [e_bi, e_bind, e_let, e_tr, e_tl, cLm1, cLm2, cL0, cL1, cL2, cL3, cL4, cL5, cL6, cL7, cL8, cL9, cL10, cL11, cL12, cL13, cL14, cL15, cL16, cL17, cL18, cL19, cL20, cL21, cL22, cL23, cL24, cL25, cL29, cL30, cL31, cL32, cL36, cL48, cL50, cL51, cL52, cL64, cL99, cL100, cL700, cL1000, cL9999, cL10000, cI_add, cI_sub, cI_mul, cI_neg, cI_lt, cI_le, cI_eq, ne_eq, ifp, ifn, bI_p, bI_n, aZ_0, aZ_1, aZ_b, e_gdt, e_ifT, e_ifF, not_true_eq_false, not_false_eq_true, e_gd, cI_inT, cI_nat, eg, s5, a11, r150, cI_div, rem_e]
          refine ok_bindI (Ok.mono f fun D4 q => ?_)
          have hC4 : CP D4 2 T := hC3.fr hp (fun k j hk => q.2 _ j (by omega) (by omega))
          refine ok_bindI ((keep_ok (P := fun w' i' g' => w' < w ∨ (w' = w ∧ (i' < i ∨ (i' = i ∧ g' < g)))) hp hC4 c y z q.1 (fun w' i' g' d h a b c e f => (q.2 _ _ (by omega) (by omega)).trans (m1 w' i' g' d h a b c e f))).mono fun D5 q5 => ?_)
          refine ok_someI (Or.inl ⟨_, rfl, by omega, rfl, fun w' i' g' d h => q5.1 w' i' g' d (by omega), fun k j a => (q5.2 k j (by omega) (by omega)).trans ((q.2 k j (by omega) (by omega)).trans (m2' k j a))⟩)
        · simp (disch := omega) only [e_bi, e_bind, e_let, e_tr, e_tl, cLm1, cLm2, cL0, cL1, cL2, cL3, cL4, cL5, cL6, cL7, cL8, cL9, cL10, cL11, cL12, cL13, cL14, cL15, cL16, cL17, cL18, cL19, cL20, cL21, cL22, cL23, cL24, cL25, cL29, cL30, cL31, cL32, cL36, cL48, cL50, cL51, cL52, cL64, cL99, cL100, cL700, cL1000, cL9999, cL10000, cI_add, cI_sub, cI_mul, cI_neg, cI_lt, cI_le, cI_eq, ne_eq, ifp, ifn, bI_p, bI_n, aZ_0, aZ_1, aZ_b, e_gdt, e_ifT, e_ifF, not_true_eq_false, not_false_eq_true, e_gd, s5]
          refine ok_someI (Or.inr ⟨_, rfl, ?_⟩)
          unfold J_X2_markAll_90
          simp only [cL1, e_let, cI_add]
          refine ok_someI (Or.inl ⟨_, rfl, by omega, rfl, fun w' i' g' d h a1 a2 a3 a4 => m1 w' i' g' d (by omega) a1 a2 a3 a4, m2⟩)
      · simp (disch := omega) only [e_bi, e_bind, e_let, e_tr, e_tl, cLm1, cLm2, cL0, cL1, cL2, cL3, cL4, cL5, cL6, cL7, cL8, cL9, cL10, cL11, cL12, cL13, cL14, cL15, cL16, cL17, cL18, cL19, cL20, cL21, cL22, cL23, cL24, cL25, cL29, cL30, cL31, cL32, cL36, cL48, cL50, cL51, cL52, cL64, cL99, cL100, cL700, cL1000, cL9999, cL10000, cI_add, cI_sub, cI_mul, cI_neg, cI_lt, cI_le, cI_eq, ne_eq, ifp, ifn, bI_p, bI_n, aZ_0, aZ_1, aZ_b, e_gdt, e_ifT, e_ifF, not_true_eq_false, not_false_eq_true, e_gd, cI_inT, cI_nat, ew, qw, p5]
        refine ok_someI (Or.inr ⟨_, rfl, ?_⟩)
        unfold J_X2_markAll_96
        simp only [cL1, e_let, cI_add]
        refine ok_someI (Or.inl ⟨_, rfl, c, rfl, fun w' i' g' d h a1 a2 a3 a4 => g1 w' i' g' d (by omega) a1 a2 a3 a4, g2⟩)
    · simp (disch := omega) only [e_bi, e_bind, e_let, e_tr, e_tl, cLm1, cLm2, cL0, cL1, cL2, cL3, cL4, cL5, cL6, cL7, cL8, cL9, cL10, cL11, cL12, cL13, cL14, cL15, cL16, cL17, cL18, cL19, cL20, cL21, cL22, cL23, cL24, cL25, cL29, cL30, cL31, cL32, cL36, cL48, cL50, cL51, cL52, cL64, cL99, cL100, cL700, cL1000, cL9999, cL10000, cI_add, cI_sub, cI_mul, cI_neg, cI_lt, cI_le, cI_eq, ne_eq, ifp, ifn, bI_p, bI_n, aZ_0, aZ_1, aZ_b, e_gdt, e_ifT, e_ifF, not_true_eq_false, not_false_eq_true, e_gd, cI_inT, cI_nat, ew, qw]
      refine ok_someI (Or.inr ⟨_, rfl, ?_⟩)
      unfold J_X2_markAll_96
      simp only [cL1, e_let, cI_add]
      refine ok_someI (Or.inl ⟨_, rfl, c, rfl, fun w' i' g' d' h a1 a2 a3 a4 => ?_, g2⟩)
      by_cases y : w' = w
      · subst y; exact absurd a2 d
      · exact g1 w' i' g' d' (by omega) a1 a2 a3 a4
  · simp (disch := omega) only [e_bi, e_bind, e_let, e_tr, e_tl, cLm1, cLm2, cL0, cL1, cL2, cL3, cL4, cL5, cL6, cL7, cL8, cL9, cL10, cL11, cL12, cL13, cL14, cL15, cL16, cL17, cL18, cL19, cL20, cL21, cL22, cL23, cL24, cL25, cL29, cL30, cL31, cL32, cL36, cL48, cL50, cL51, cL52, cL64, cL99, cL100, cL700, cL1000, cL9999, cL10000, cI_add, cI_sub, cI_mul, cI_neg, cI_lt, cI_le, cI_eq, ne_eq, ifp, ifn, bI_p, bI_n, aZ_0, aZ_1, aZ_b, e_gdt, e_ifT, e_ifF, not_true_eq_false, not_false_eq_true, e_gd]
    exact ok_someI (Or.inr ⟨_, rfl, ok_someI ⟨fun w' i g d _ a => f1 w' i g d (by omega) a, f2⟩⟩)
/-- the greatest and the least of the first n and one more -/
def mxF (f : Nat → Int) : Nat → Int
  | 0 => f 0
  | n + 1 => if mxF f n < f (n + 1) then f (n + 1) else mxF f n
def mnF (f : Nat → Int) : Nat → Int
  | 0 => f 0
  | n + 1 => if f (n + 1) < mnF f n then f (n + 1) else mnF f n
theorem mx_b {f : Nat → Int} {B : Int} : ∀ n : Nat, (∀ i : Nat, i ≤ n → -B ≤ f i ∧ f i ≤ B) → -B ≤ mxF f n ∧ mxF f n ≤ B ∧ -B ≤ mnF f n ∧ mnF f n ≤ B ∧ mnF f n ≤ mxF f n
  | 0, h => by have := h 0 (by omega); rw [mxF, mnF]; omega
  | n + 1, h => by
    have a := mx_b n (fun i hi => h i (by omega))
    have b := h (n + 1) (by omega)
    rw [mxF, mnF]
    split <;> split <;> omega
def dwN (T : aT) (o : Nat → Int) (w : Nat) : Int := mxF (smR T o w) ((T 0 3).toNat - 1) - mnF (smR T o w) ((T 0 3).toNat - 1)
def gdN (T : aT) (o : Nat → Int) : Nat → Int
  | 0 => 0
  | w + 1 => if 0 < T 0 (10 + w) then (if gdN T o w < dwN T o w then dwN T o w else gdN T o w) else gdN T o w
theorem dw_b {T : aT} {o : Nat → Int} {w : Nat} (hp : TOKs T) (h3 : 0 < T 0 3) (ho : ∀ i : Nat, (i : Int) < T 0 5 → 0 ≤ o i ∧ o i < T 0 5) : 0 ≤ dwN T o w ∧ dwN T o w ≤ 2527200 := by
  have hq := hp.1
  have h := mx_b (f := smR T o w) (B := 1263600) ((T 0 3).toNat - 1) (fun g hg => smR_b hp ho (by omega))
  unfold dwN
  omega
theorem gd_b {T : aT} {o : Nat → Int} (hp : TOKs T) (h3 : 0 < T 0 3) (ho : ∀ i : Nat, (i : Int) < T 0 5 → 0 ≤ o i ∧ o i < T 0 5) : ∀ w : Nat, 0 ≤ gdN T o w ∧ gdN T o w ≤ 2527200
  | 0 => by rw [gdN]; omega
  | w + 1 => by
    have a := gd_b hp h3 ho w
    have b := dw_b (w := w) hp h3 ho
    rw [gdN]
    split
    · split <;> omega
    · exact a
end FAR
