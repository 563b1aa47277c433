/-! which gate to smell next (23) -/
section NXT
def frG (T : aT) (D D' : aD) : Prop := (∀ k j : Nat, ¬ (108 ≤ k ∧ k ≤ 112) → k ≠ 123 → ¬ (k = 88 ∧ j = 30) → ¬ (j = (T 0 4).toNat ∧ (k = 99 ∨ k = 100 ∨ k = 101 ∨ k = 106)) → gI D' k j = gI D k j) ∧ D'.2 = D.2
theorem groupAt_ok {D : aD} {T : aT} {l : List (Nat × Nat)} {g : Nat} {h : Int} (hp : TOKp T) (hn : TOKn T) (hM : MS D T) (h4 : gI D 91 4 = cI (T 0 4)) (hMD : MD D l) (hl : okL T l) (hg : (g : Int) < T 0 5) (u1 : 0 ≤ h) (u2 : h < 24) :
    Ok (f_X12_groupAt (cI (g : Int)) (cI h) D) (fun r => (∃ G : Nat, r.1 = cI (G : Int) ∧ isG (kyK T (T 11 g) h l) l.length G) ∧ MS r.2 T ∧ frG T D r.2) := by
  have hq := hp.1
  have hq2 := hn.1
  have hT := TOKs.of hp hn
  have gt := hp.2.2.2.2.1 g hg
  have ll := hl.1
  have mk := mxK_b (T := T) (by omega) (by omega)
  unfold f_X12_groupAt J_X12_groupAt_2
  refine ok_bindI (ok_lp (fun i t => t.1 = cI (i : Int) ∧ vD t.2 T (T 11 g) h l i ∧ MS t.2 T ∧ frG T D t.2) l.length (by omega) ⟨rfl, fun a s ha => absurd ha (by omega), hM, fun _ _ _ _ _ _ => rfl, rfl⟩ ?_)
  rintro i ⟨x, D1⟩ hi ⟨rfl, g1, g2, g3⟩
  show Ok (B_X12_groupAt_2 (cI (g : Int)) (cI h) (cI (i : Int)) D1) _
  have c88 : gI D1 88 52 = cI (l.length : Int) := (g3.1 _ _ (by omega) (by omega) (by omega) (by omega)).trans hMD.1
  have e : ((i : Int)).toNat = i := by omega
  have eg : ((g : Int)).toNat = g := by omega
  by_cases y : i < l.length
  · obtain ⟨gi, gm⟩ := lq_m y
    have vb := v_b (h := h) hp (hl.2 _ gm).2.1 gt.1 gt.2
    have st : ∀ s : Nat, vN T (T 11 g) h (lqN l i) s = ntN T (mkN T (rkN T (lqN l i).1 (lqN l i).2 (T 11 g) h) s) := fun s => rfl
    have gi2 := hMD.2 i _ gi
    generalize hqq : lqN l i = q at gi gm vb st gi2
    obtain ⟨b1, b2, b3, b4⟩ := hl.2 q gm
    have c122 : gI D1 122 i = cI (1000 * (q.1 : Int) + (q.2 : Int)) := (g3.1 _ _ (by omega) (by omega) (by omega) (by omega)).trans gi2
    have d1 : (1000 * (q.1 : Int) + (q.2 : Int)) / 1000 = q.1 := by omega
    have d2 : 1000 * (q.1 : Int) + (q.2 : Int) - (q.1 : Int) * 1000 = q.2 := by omega
    obtain ⟨T', D2, ic, hT', hs, hM2, hR, f2, f22⟩ := isC_ok hp hn g2 b1 b2 b3 b4
    have ga : gI D2 102 g = cI (T 11 g) := by
      have h := hM2.2.2.2.1 g (by rw [hs.1 5 (by omega)]; omega)
      rw [hs.2.2.1] at h
      exact h
    have cc : T 11 g < T' 0 0 * T' 0 1 := by rw [hs.1 0 (by omega), hs.1 1 (by omega)]; exact gt.2
    have tl := tell_ok (hour := h) (w := (q.1 : Int)) hT' hM2 gt.1 cc u1 u2 (by omega) (by omega) (raw_s hT' gt.1 cc)
    suffices hsu : ∀ Q : ((Int32 × aD) ⊕ aD) → Prop, (∀ D5 : aD, vD D5 T (T 11 g) h l (i + 1) → MS D5 T → frG T D D5 → Q (.inl (cI ((i : Int) + 1), D5))) → Ok (B_X12_groupAt_2 (cI (g : Int)) (cI h) (cI (i : Int)) D1) Q from hsu _ (fun D5 a b c => Or.inl ⟨_, rfl, y, rfl, a, b, c⟩)
    intro Q hQ
    unfold B_X12_groupAt_2
    simp (disch := omega) only [e_bi, e_bind, e_let, e_tr, e_tl, cLm1, cLm2, cL0, cL1, cL2, cL3, cL4, cL5, cL6, cL7, cL8, cL9, cL10, cL11, cL12, cL13, cL14, cL15, cL16, cL17, cL18, cL19, cL20, cL21, cL22, cL23, cL24, cL25, cL29, cL30, cL31, cL32, cL36, cL48, cL50, cL51, cL52, cL64, cL99, cL100, cL700, cL1000, cL9999, cL10000, cI_add, cI_sub, cI_mul, cI_neg, cI_lt, cI_le, cI_eq, ne_eq, ifp, ifn, bI_p, bI_n, aZ_0, aZ_1, aZ_b, e_gdt, e_ifT, e_ifF, not_true_eq_false, not_false_eq_true, e_gd, cL1000, cI_inT, cI_nat, cI_div, e, eg, c88, c122, d1, d2, ic, ga]
    refine ok_bindI (tl.mono fun D3 q3 => ?_)
    obtain ⟨p1, p2, p3⟩ := q3
    have a4 : gI D3 91 4 = cI (T 0 4) := (p2 _ _ (by omega)).trans ((f2 _ _ (by omega) (by omega)).trans ((g3.1 _ _ (by omega) (by omega) (by omega) (by omega)).trans h4))
    simp (disch := omega) only [e_bi, e_bind, e_let, e_tr, e_tl, cLm1, cLm2, cL0, cL1, cL2, cL3, cL4, cL5, cL6, cL7, cL8, cL9, cL10, cL11, cL12, cL13, cL14, cL15, cL16, cL17, cL18, cL19, cL20, cL21, cL22, cL23, cL24, cL25, cL29, cL30, cL31, cL32, cL36, cL48, cL50, cL51, cL52, cL64, cL99, cL100, cL700, cL1000, cL9999, cL10000, cI_add, cI_sub, cI_mul, cI_neg, cI_lt, cI_le, cI_eq, ne_eq, ifp, ifn, bI_p, bI_n, aZ_0, aZ_1, aZ_b, e_gdt, e_ifT, e_ifF, not_true_eq_false, not_false_eq_true, e_gd, cX0, cX1, cX2, cX3, cX4, cX5, cX6, cX7, cX8, cX9, cX10, cX11, cX12, cX13, cX14, cX15, cX16, cX17, cX18, cX19, cX20, cX21, cX22, cX23, cX24, cX25, cX29, cX30, cX31, cX32, cX36, Int.reduceToNat, cI_inT, a4]
    have fr4 : ∀ k j : Nat, ¬ (108 ≤ k ∧ k ≤ 112) → ¬ (k = 88 ∧ j = 30) → ¬ (j = (T 0 4).toNat ∧ (k = 99 ∨ k = 100 ∨ k = 101 ∨ k = 106)) → gI (pI D3 88 30 (cI (T 0 4))) k j = gI D1 k j := fun k j a b c => by
      rw [gI_fr (by omega), p2 _ _ (by omega), f2 _ _ b c]
    have hM4 : MS (pI D3 88 30 (cI (T 0 4))) T := by
      refine g2.frP hT (fun k j a b => fr4 k j (by omega) (by omega) b) (fun j a b => ?_)
      by_cases z : j = 30
      · subst z; rw [gI_eq]; exact g2.2.2.2.2.2.1.symm
      · exact fr4 _ _ (by omega) (by omega) (by omega)
    have v111 : ∀ s : Nat, s < (T 0 2).toNat → gI (pI D3 88 30 (cI (T 0 4))) 111 s = cI (vN T (T 11 g) h (lqN l i) s) := fun s hs' => by
      rw [gI_fr (by omega)]
      have v := (p1.2.2 s (by rw [hs.1 2 (by omega)]; omega)).2
      rw [nt_cg hs, mk_cg hs (by omega) (by omega) (fun j hj => hR (T 11 g) h j hj)] at v
      rw [hqq]
      exact v
    have v1 : vD (pI D3 88 30 (cI (T 0 4))) T (T 11 g) h l i := fun a s ha hs' => by
      have z : gI (pI D3 88 30 (cI (T 0 4))) 123 (6 * a + s) = gI D1 123 (6 * a + s) := fr4 _ _ (by omega) (by omega) (by omega)
      rw [z]; exact g1 a s ha hs'
    have e42 : (pI D3 88 30 (cI (T 0 4))).2 = D1.2 := p3.trans f22
    generalize pI D3 88 30 (cI (T 0 4)) = D4 at fr4 hM4 v111 v1 e42
    unfold J_X12_groupAt_65
    refine ok_bindI (ok_lp (fun s t => t.1 = cI (s : Int) ∧ vD t.2 T (T 11 g) h l i ∧ (∀ s' : Nat, s' < s → gI t.2 123 (6 * i + s') = cI (vN T (T 11 g) h (lqN l i) s')) ∧ (∀ k j : Nat, k ≠ 123 → gI t.2 k j = gI D4 k j) ∧ t.2.2 = D4.2) (T 0 2).toNat (by omega) ⟨rfl, v1, fun s hs => absurd hs (by omega), fun _ _ _ => rfl, rfl⟩ ?_)
    rintro s ⟨x, D5⟩ hs' ⟨rfl, m1, m2, m3, m4⟩
    show Ok (B_X12_groupAt_65 (cI (g : Int)) (cI h) (cI (i : Int)) (cI (s : Int)) D5) _
    have M2 : gI D5 91 2 = cI (T 0 2) := (m3 _ _ (by omega)).trans (hM4.1 2 (by omega) (by omega))
    unfold B_X12_groupAt_65
    by_cases z : s < (T 0 2).toNat
    · have es : ((s : Int)).toNat = s := by omega
      have ei : (6 * (i : Int) + (s : Int)).toNat = 6 * i + s := by omega
      have w := (m3 111 s (by omega)).trans (v111 s z)
      simp (disch := omega) only [e_bi, e_bind, e_let, e_tr, e_tl, cLm1, cLm2, cL0, cL1, cL2, cL3, cL4, cL5, cL6, cL7, cL8, cL9, cL10, cL11, cL12, cL13, cL14, cL15, cL16, cL17, cL18, cL19, cL20, cL21, cL22, cL23, cL24, cL25, cL29, cL30, cL31, cL32, cL36, cL48, cL50, cL51, cL52, cL64, cL99, cL100, cL700, cL1000, cL9999, cL10000, cI_add, cI_sub, cI_mul, cI_neg, cI_lt, cI_le, cI_eq, ne_eq, ifp, ifn, bI_p, bI_n, aZ_0, aZ_1, aZ_b, e_gdt, e_ifT, e_ifF, not_true_eq_false, not_false_eq_true, e_gd, cX0, cX1, cX2, cX3, cX4, cX5, cX6, cX7, cX8, cX9, cX10, cX11, cX12, cX13, cX14, cX15, cX16, cX17, cX18, cX19, cX20, cX21, cX22, cX23, cX24, cX25, cX29, cX30, cX31, cX32, cX36, Int.reduceToNat, cI_inT, cI_nat, M2, es, ei, w]
      refine ok_someI (Or.inl ⟨_, rfl, z, rfl, fun a t ha ht => ?_, fun t ht => ?_, fun k j a => (gI_fr (by omega)).trans (m3 k j a), m4⟩)
      · show gI (pI D5 123 (6 * i + s) _) 123 (6 * a + t) = _
        rw [gI_fr (by omega)]; exact m1 a t ha ht
      · show gI (pI D5 123 (6 * i + s) _) 123 (6 * i + t) = _
        by_cases y : t = s
        · subst y; exact gI_eq
        · rw [gI_fr (by omega)]; exact m2 t (by omega)
    · obtain rfl : s = (T 0 2).toNat := by omega
      simp (disch := omega) only [e_bi, e_bind, e_let, e_tr, e_tl, cLm1, cLm2, cL0, cL1, cL2, cL3, cL4, cL5, cL6, cL7, cL8, cL9, cL10, cL11, cL12, cL13, cL14, cL15, cL16, cL17, cL18, cL19, cL20, cL21, cL22, cL23, cL24, cL25, cL29, cL30, cL31, cL32, cL36, cL48, cL50, cL51, cL52, cL64, cL99, cL100, cL700, cL1000, cL9999, cL10000, cI_add, cI_sub, cI_mul, cI_neg, cI_lt, cI_le, cI_eq, ne_eq, ifp, ifn, bI_p, bI_n, aZ_0, aZ_1, aZ_b, e_gdt, e_ifT, e_ifF, not_true_eq_false, not_false_eq_true, e_gd, cX0, cX1, cX2, cX3, cX4, cX5, cX6, cX7, cX8, cX9, cX10, cX11, cX12, cX13, cX14, cX15, cX16, cX17, cX18, cX19, cX20, cX21, cX22, cX23, cX24, cX25, cX29, cX30, cX31, cX32, cX36, Int.reduceToNat, cI_inT, M2]
      refine ok_someI (Or.inr ⟨_, rfl, ?_⟩)
      unfold J_X12_groupAt_101
      simp only [cL1, e_let, cI_add]
      refine ok_someI (hQ _ (fun a t ha ht => ?_) (hM4.fr (fun k j a => m3 _ _ (by omega)) (fun j a b => m3 _ _ (by omega))) ⟨fun k j a b c d => ?_, m4.trans (e42.trans g3.2)⟩)
      · by_cases y : a = i
        · subst y; exact m2 t ht
        · exact m1 a t (by omega) ht
      · rw [m3 k j b, fr4 k j a c d]
        exact g3.1 k j a b c d
  · obtain rfl : i = l.length := by omega
    unfold B_X12_groupAt_2
    simp (disch := omega) only [e_bi, e_bind, e_let, e_tr, e_tl, cLm1, cLm2, cL0, cL1, cL2, cL3, cL4, cL5, cL6, cL7, cL8, cL9, cL10, cL11, cL12, cL13, cL14, cL15, cL16, cL17, cL18, cL19, cL20, cL21, cL22, cL23, cL24, cL25, cL29, cL30, cL31, cL32, cL36, cL48, cL50, cL51, cL52, cL64, cL99, cL100, cL700, cL1000, cL9999, cL10000, cI_add, cI_sub, cI_mul, cI_neg, cI_lt, cI_le, cI_eq, ne_eq, ifp, ifn, bI_p, bI_n, aZ_0, aZ_1, aZ_b, e_gdt, e_ifT, e_ifF, not_true_eq_false, not_false_eq_true, e_gd, c88]
    refine ok_someI (Or.inr ⟨_, rfl, ?_⟩)
    have M2 := g2.1 2 (by omega) (by omega)
    unfold J_X12_groupAt_107 J_X12_groupAt_112
    refine ok_bindI (ok_lp (fun i t => ∃ b : Nat, t.1 = cI (b : Int) ∧ b ≤ l.length ∧ t.2.1 = cI (i : Int) ∧ t.2.2 = D1 ∧ (∀ a : Nat, a < i → ctN (kyK T (T 11 g) h l) (kyK T (T 11 g) h l a) l.length ≤ b + ctN (kyK T (T 11 g) h l) (kyK T (T 11 g) h l a) a) ∧
      ((i = 0 ∧ b = 0) ∨ ∃ a : Nat, a < i ∧ b ≤ ctN (kyK T (T 11 g) h l) (kyK T (T 11 g) h l a) l.length)) l.length (by omega) ⟨0, rfl, by omega, rfl, rfl, fun a ha => absurd ha (by omega), Or.inl ⟨rfl, rfl⟩⟩ ?_)
    rintro i ⟨x, y, D2⟩ hi ⟨b, q1, q2, q3, q4, q5, q6⟩
    obtain rfl : x = cI (b : Int) := q1
    obtain rfl : y = cI (i : Int) := q3
    obtain rfl : D2 = D1 := q4
    show Ok (B_X12_groupAt_112 (cI (b : Int)) (cI (i : Int)) D2) _
    unfold B_X12_groupAt_112
    by_cases z : (l.length : Int) - b ≤ i
    · simp (disch := omega) only [e_bi, e_bind, e_let, e_tr, e_tl, cLm1, cLm2, cL0, cL1, cL2, cL3, cL4, cL5, cL6, cL7, cL8, cL9, cL10, cL11, cL12, cL13, cL14, cL15, cL16, cL17, cL18, cL19, cL20, cL21, cL22, cL23, cL24, cL25, cL29, cL30, cL31, cL32, cL36, cL48, cL50, cL51, cL52, cL64, cL99, cL100, cL700, cL1000, cL9999, cL10000, cI_add, cI_sub, cI_mul, cI_neg, cI_lt, cI_le, cI_eq, ne_eq, ifp, ifn, bI_p, bI_n, aZ_0, aZ_1, aZ_b, e_gdt, e_ifT, e_ifF, not_true_eq_false, not_false_eq_true, e_gd, c88]
      refine ok_someI (Or.inr ⟨_, rfl, ?_⟩)
      exact ok_someI ⟨⟨b, rfl, isG_cut q5 q6 hi (by omega)⟩, g2, g3⟩
    · simp (disch := omega) only [e_bi, e_bind, e_let, e_tr, e_tl, cLm1, cLm2, cL0, cL1, cL2, cL3, cL4, cL5, cL6, cL7, cL8, cL9, cL10, cL11, cL12, cL13, cL14, cL15, cL16, cL17, cL18, cL19, cL20, cL21, cL22, cL23, cL24, cL25, cL29, cL30, cL31, cL32, cL36, cL48, cL50, cL51, cL52, cL64, cL99, cL100, cL700, cL1000, cL9999, cL10000, cI_add, cI_sub, cI_mul, cI_neg, cI_lt, cI_le, cI_eq, ne_eq, ifp, ifn, bI_p, bI_n, aZ_0, aZ_1, aZ_b, e_gdt, e_ifT, e_ifF, not_true_eq_false, not_false_eq_true, e_gd, c88]
      unfold J_X12_groupAt_132
      have cu := ct_n (K := kyK T (T 11 g) h l) (x := kyK T (T 11 g) h l i)
      refine ok_bindI (ok_lp (fun j t => ∃ v : Nat, t.1 = cI (v : Int) ∧ t.2.1 = cI ((i : Int) + 1 + j) ∧ t.2.2 = D2 ∧ ctN (kyK T (T 11 g) h l) (kyK T (T 11 g) h l i) (i + 1 + j) = v + ctN (kyK T (T 11 g) h l) (kyK T (T 11 g) h l i) i) (l.length - i - 1) (by omega) ⟨1, rfl, by simp, rfl, by rw [Nat.add_zero, ctN, if_pos rfl]; omega⟩ ?_)
      rintro j ⟨x, y, D3⟩ hj ⟨v, r1, r2, r3, r4⟩
      obtain rfl : x = cI (v : Int) := r1
      obtain rfl : y = cI ((i : Int) + 1 + j) := r2
      obtain rfl : D3 = D2 := r3
      show Ok (B_X12_groupAt_132 (cI (b : Int)) (cI (i : Int)) (cI (v : Int)) (cI ((i : Int) + 1 + j)) D3) _
      have cv := cu (i + 1 + j)
      unfold B_X12_groupAt_132
      by_cases w : j < l.length - i - 1
      · have ak := alike_ok (a := i) (b := i + 1 + j) hp M2 hl g1 gt.1 gt.2 (by omega) (by omega)
        have ec : ((i + 1 + j : Nat) : Int) = (i : Int) + 1 + j := by omega
        rw [ec] at ak
        have nx : ctN (kyK T (T 11 g) h l) (kyK T (T 11 g) h l i) (i + 1 + (j + 1)) = ctN (kyK T (T 11 g) h l) (kyK T (T 11 g) h l i) (i + 1 + j) + if kyK T (T 11 g) h l (i + 1 + j) = kyK T (T 11 g) h l i then 1 else 0 := rfl
        by_cases s : kyK T (T 11 g) h l (i + 1 + j) = kyK T (T 11 g) h l i
        · rw [if_pos s] at ak nx
          simp (disch := omega) only [e_bi, e_bind, e_let, e_tr, e_tl, cLm1, cLm2, cL0, cL1, cL2, cL3, cL4, cL5, cL6, cL7, cL8, cL9, cL10, cL11, cL12, cL13, cL14, cL15, cL16, cL17, cL18, cL19, cL20, cL21, cL22, cL23, cL24, cL25, cL29, cL30, cL31, cL32, cL36, cL48, cL50, cL51, cL52, cL64, cL99, cL100, cL700, cL1000, cL9999, cL10000, cI_add, cI_sub, cI_mul, cI_neg, cI_lt, cI_le, cI_eq, ne_eq, ifp, ifn, bI_p, bI_n, aZ_0, aZ_1, aZ_b, e_gdt, e_ifT, e_ifF, not_true_eq_false, not_false_eq_true, e_gd, c88, ak]
          exact ok_someI (Or.inl ⟨_, rfl, w, v + 1, rfl, by show cI _ = cI _; congr 1, rfl, by rw [nx, r4]; omega⟩)
        · rw [if_neg s] at ak nx
          simp (disch := omega) only [e_bi, e_bind, e_let, e_tr, e_tl, cLm1, cLm2, cL0, cL1, cL2, cL3, cL4, cL5, cL6, cL7, cL8, cL9, cL10, cL11, cL12, cL13, cL14, cL15, cL16, cL17, cL18, cL19, cL20, cL21, cL22, cL23, cL24, cL25, cL29, cL30, cL31, cL32, cL36, cL48, cL50, cL51, cL52, cL64, cL99, cL100, cL700, cL1000, cL9999, cL10000, cI_add, cI_sub, cI_mul, cI_neg, cI_lt, cI_le, cI_eq, ne_eq, ifp, ifn, bI_p, bI_n, aZ_0, aZ_1, aZ_b, e_gdt, e_ifT, e_ifF, not_true_eq_false, not_false_eq_true, e_gd, c88, ak]
          exact ok_someI (Or.inl ⟨_, rfl, w, v, by show cI _ = cI _; congr 1, by show cI _ = cI _; congr 1, rfl, by rw [nx, r4]; omega⟩)
      · obtain rfl : j = l.length - i - 1 := by omega
        simp (disch := omega) only [e_bi, e_bind, e_let, e_tr, e_tl, cLm1, cLm2, cL0, cL1, cL2, cL3, cL4, cL5, cL6, cL7, cL8, cL9, cL10, cL11, cL12, cL13, cL14, cL15, cL16, cL17, cL18, cL19, cL20, cL21, cL22, cL23, cL24, cL25, cL29, cL30, cL31, cL32, cL36, cL48, cL50, cL51, cL52, cL64, cL99, cL100, cL700, cL1000, cL9999, cL10000, cI_add, cI_sub, cI_mul, cI_neg, cI_lt, cI_le, cI_eq, ne_eq, ifp, ifn, bI_p, bI_n, aZ_0, aZ_1, aZ_b, e_gdt, e_ifT, e_ifF, not_true_eq_false, not_false_eq_true, e_gd, c88]
        refine ok_someI (Or.inr ⟨_, rfl, ?_⟩)
        rw [show i + 1 + (l.length - i - 1) = l.length by omega] at r4 cv
        unfold J_X12_groupAt_168
        have em : (if cI (b : Int) < cI (v : Int) then cI (v : Int) else cI (b : Int)) = cI ((if b < v then v else b : Nat) : Int) := by
          by_cases t : b < v
          · rw [if_pos (by rw [cI_lt (by omega) (by omega) (by omega) (by omega)]; omega), if_pos t]
          · rw [if_neg (by rw [cI_lt (by omega) (by omega) (by omega) (by omega)]; omega), if_neg t]
        simp only [em, cL1, e_let, cI_add]
        refine ok_someI (Or.inl ⟨_, rfl, by omega, _, rfl, by split <;> omega, rfl, rfl, fun a ha => ?_, Or.inr ?_⟩)
        · by_cases t : a = i
          · subst t; split <;> omega
          · have := q5 a (by omega)
            split <;> omega
        · by_cases t : b < v
          · rw [if_pos t]; exact ⟨i, by omega, by omega⟩
          · rw [if_neg t]
            rcases q6 with q6 | ⟨a, a1, a2⟩
            · exact ⟨i, by omega, by omega⟩
            · exact ⟨a, by omega, a2⟩
end NXT
