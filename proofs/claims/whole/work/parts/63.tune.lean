/-! best: the class's side -/
section TUN
theorem fr_hw {T : aT} {H : Nat → Int} {m : Int} {w i p : Nat} : frN (hwT T H) m w i p = frN T m w i p := by
  unfold frN gtN hrN
  rw [hw_o (k := 8) (by omega), hw_o (k := 9) (by omega), hw_o (k := 11) (by omega), hw_o (k := 14) (by omega), hw_o (k := 15) (by omega), sc_cg hw_scn]
theorem fr_b {T : aT} {m : Int} {w i p : Nat} (hp : TOKp T) (hn : TOKn T) (hm : m = 1 ∨ m = 3) (hP : (p : Int) < T 0 4) (hi : (i : Int) < T 0 5) : 0 ≤ frN T m w i p ∧ frN T m w i p ≤ 360 := by
  have r := hp.2.2.2.1 p hP
  have o := hn.2.2.1 i hi
  have g := hp.2.2.2.2.1 (T 14 i).toNat (by omega)
  unfold frN gtN
  exact sc_b hp r.1 r.2.1 hm r.2.2.1 r.2.2.2.1 g.1 g.2
theorem ever_ok {D : aD} {T : aT} {H : Nat → Int} {p : Nat} (hp : TOKp T) (hn : TOKn T) (hC : CP D 2 T) (hK : CK D (hwT T H) (wOn T)) (hP : (p : Int) < T 0 4) :
    Ok (f_X1_everSmells (cI (p : Int)) D) (fun r => r.2 = D ∧ ((smE T p ∧ r.1 = cI 1) ∨ (¬ smE T p ∧ r.1 = cI 0))) := by
  have hq := hp.1
  have hq2 := hn.1
  obtain ⟨-, -, p3, q4, -⟩ := CP.two hC
  have p5 := p3 5 (by omega) (by omega)
  unfold f_X1_everSmells J_X1_everSmells_2
  refine ok_bindI (ok_lp (K := fun r => (smE T p ∧ r = .inl D) ∨ (¬ smE T p ∧ r = .inr D)) (fun w t => t = (cI (w : Int), D) ∧ ∀ w' i : Nat, w' < w → 0 < T 0 (10 + w') → (i : Int) < T 0 5 → ¬ (0 < frN T 1 w' i p ∨ 0 < frN T 3 w' i p)) 5 (by omega) ⟨rfl, fun w i a => absurd a (by omega)⟩ ?_ |>.mono ?_)
  · rintro w t hw ⟨rfl, h⟩
    show Ok (B_X1_everSmells_2 (cI (p : Int)) (cI (w : Int)) D) _
    unfold B_X1_everSmells_2
    by_cases c : w < 5
    · have q := q4 w c
      have wb := hp.2.1 w c
      have ew : ((w : Int)).toNat = w := by omega
      rw [if_neg (show ¬ ((5 : Int32) ≤ cI (w : Int)) by rw [cL5, cI_le (by omega) (by omega) (by omega) (by omega)]; omega)]
      unfold J_X1_everSmells_9
      refine ok_bindI (ok_lp (K := fun r => (smE T p ∧ r = .inl D) ∨ ((∀ i : Nat, 0 < T 0 (10 + w) → (i : Int) < T 0 5 → ¬ (0 < frN T 1 w i p ∨ 0 < frN T 3 w i p)) ∧ r = .inr D)) (fun i t => t = (cI (i : Int), D) ∧ ∀ i' : Nat, i' < i → ¬ (0 < frN T 1 w i' p ∨ 0 < frN T 3 w i' p)) (T 0 5).toNat (by omega) ⟨rfl, fun i a => absurd a (by omega)⟩ ?_ |>.mono ?_)
      · rintro i t hi ⟨rfl, h'⟩
        show Ok (B_X1_everSmells_9 (cI (p : Int)) (cI (w : Int)) (cI (i : Int)) D) _
        unfold B_X1_everSmells_9 f_X1_placeOf
        by_cases z : 0 < T 0 (10 + w)
        · by_cases y : (i : Int) < T 0 5
          · obtain ⟨t1, t3⟩ := hK.2.2 w i p ⟨Or.inr z, c, by rw [hw_o (by omega)]; exact hP⟩ (by rw [hw_o (by omega)]; exact y)
            rw [fr_hw] at t1 t3
            have b1 := fr_b (w := w) hp hn (Or.inl rfl) hP y
            have b3 := fr_b (w := w) hp hn (Or.inr rfl) hP y
            have ex : (((w : Int) * 5 + (i : Int)) * 12 + (p : Int)).toNat = (w * 5 + i) * 12 + p := by omega
            by_cases s1 : 0 < frN T 1 w i p
            · simp (disch := omega) only [e_bi, e_bind, e_let, e_tr, e_tl, cLm1, cLm2, cL0, cL1, cL2, cL3, cL4, cL5, cL6, cL7, cL8, cL9, cL10, cL11, cL12, cL13, cL14, cL15, cL16, cL17, cL18, cL19, cL20, cL21, cL22, cL23, cL24, cL25, cL29, cL30, cL31, cL32, cL36, cL48, cL50, cL51, cL52, cL64, cL99, cL100, cL700, cL1000, cL9999, cL10000, cI_add, cI_sub, cI_mul, cI_neg, cI_lt, cI_le, cI_eq, ne_eq, ifp, ifn, bI_p, bI_n, aZ_0, aZ_1, aZ_b, e_gdt, e_ifT, e_ifF, not_true_eq_false, not_false_eq_true, e_gd, cI_inT, cI_nat, ew, ex, q, p5, t1]
              exact ok_someI (Or.inr ⟨_, rfl, Or.inl ⟨⟨w, i, c, z, y, Or.inl s1⟩, rfl⟩⟩)
            · by_cases s3 : 0 < frN T 3 w i p
              · simp (disch := omega) only [e_bi, e_bind, e_let, e_tr, e_tl, cLm1, cLm2, cL0, cL1, cL2, cL3, cL4, cL5, cL6, cL7, cL8, cL9, cL10, cL11, cL12, cL13, cL14, cL15, cL16, cL17, cL18, cL19, cL20, cL21, cL22, cL23, cL24, cL25, cL29, cL30, cL31, cL32, cL36, cL48, cL50, cL51, cL52, cL64, cL99, cL100, cL700, cL1000, cL9999, cL10000, cI_add, cI_sub, cI_mul, cI_neg, cI_lt, cI_le, cI_eq, ne_eq, ifp, ifn, bI_p, bI_n, aZ_0, aZ_1, aZ_b, e_gdt, e_ifT, e_ifF, not_true_eq_false, not_false_eq_true, e_gd, cI_inT, cI_nat, ew, ex, q, p5, t1, t3]
                exact ok_someI (Or.inr ⟨_, rfl, Or.inl ⟨⟨w, i, c, z, y, Or.inr s3⟩, rfl⟩⟩)
              · simp (disch := omega) only [e_bi, e_bind, e_let, e_tr, e_tl, cLm1, cLm2, cL0, cL1, cL2, cL3, cL4, cL5, cL6, cL7, cL8, cL9, cL10, cL11, cL12, cL13, cL14, cL15, cL16, cL17, cL18, cL19, cL20, cL21, cL22, cL23, cL24, cL25, cL29, cL30, cL31, cL32, cL36, cL48, cL50, cL51, cL52, cL64, cL99, cL100, cL700, cL1000, cL9999, cL10000, cI_add, cI_sub, cI_mul, cI_neg, cI_lt, cI_le, cI_eq, ne_eq, ifp, ifn, bI_p, bI_n, aZ_0, aZ_1, aZ_b, e_gdt, e_ifT, e_ifF, not_true_eq_false, not_false_eq_true, e_gd, cI_inT, cI_nat, ew, ex, q, p5, t1, t3]
                refine ok_someI (Or.inl ⟨_, rfl, by omega, rfl, fun i' hi' => ?_⟩)
                by_cases e : i' = i
                · subst e; exact fun u => u.elim s1 s3
                · exact h' i' (by omega)
          · simp (disch := omega) only [e_bi, e_bind, e_let, e_tr, e_tl, cLm1, cLm2, cL0, cL1, cL2, cL3, cL4, cL5, cL6, cL7, cL8, cL9, cL10, cL11, cL12, cL13, cL14, cL15, cL16, cL17, cL18, cL19, cL20, cL21, cL22, cL23, cL24, cL25, cL29, cL30, cL31, cL32, cL36, cL48, cL50, cL51, cL52, cL64, cL99, cL100, cL700, cL1000, cL9999, cL10000, cI_add, cI_sub, cI_mul, cI_neg, cI_lt, cI_le, cI_eq, ne_eq, ifp, ifn, bI_p, bI_n, aZ_0, aZ_1, aZ_b, e_gdt, e_ifT, e_ifF, not_true_eq_false, not_false_eq_true, e_gd, cI_inT, cI_nat, ew, q, p5]
            exact ok_someI (Or.inr ⟨_, rfl, Or.inr ⟨fun i' _ hi' => h' i' (by omega), rfl⟩⟩)
        · simp (disch := omega) only [e_bi, e_bind, e_let, e_tr, e_tl, cLm1, cLm2, cL0, cL1, cL2, cL3, cL4, cL5, cL6, cL7, cL8, cL9, cL10, cL11, cL12, cL13, cL14, cL15, cL16, cL17, cL18, cL19, cL20, cL21, cL22, cL23, cL24, cL25, cL29, cL30, cL31, cL32, cL36, cL48, cL50, cL51, cL52, cL64, cL99, cL100, cL700, cL1000, cL9999, cL10000, cI_add, cI_sub, cI_mul, cI_neg, cI_lt, cI_le, cI_eq, ne_eq, ifp, ifn, bI_p, bI_n, aZ_0, aZ_1, aZ_b, e_gdt, e_ifT, e_ifF, not_true_eq_false, not_false_eq_true, e_gd, cI_inT, cI_nat, ew, q]
          exact ok_someI (Or.inr ⟨_, rfl, Or.inr ⟨fun i' u => absurd u z, rfl⟩⟩)
      · rintro r (⟨s, rfl⟩ | ⟨s, rfl⟩)
        · exact ok_someI (Or.inr ⟨_, rfl, Or.inl ⟨s, rfl⟩⟩)
        · show Ok (J_X1_everSmells_69 (cI (p : Int)) (cI (w : Int)) D) _
          unfold J_X1_everSmells_69
          rw [e_let, cL1, cI_add]
          refine ok_someI (Or.inl ⟨_, rfl, c, rfl, fun w' i hw' hz hi => ?_⟩)
          by_cases e : w' = w
          · subst e; exact s i hz hi
          · exact h w' i (by omega) hz hi
    · obtain rfl : w = 5 := by omega
      rw [if_pos (show ((5 : Int32) ≤ cI ((5 : Nat) : Int)) by decide)]
      refine ok_someI (Or.inr ⟨_, rfl, Or.inr ⟨?_, rfl⟩⟩)
      rintro ⟨w, i, a, b, c, d⟩
      exact h w i a b c d
  · rintro r (⟨s, rfl⟩ | ⟨s, rfl⟩)
    · exact ok_someI ⟨rfl, Or.inl ⟨s, rfl⟩⟩
    · exact ok_someI ⟨rfl, Or.inr ⟨s, rfl⟩⟩
end TUN
