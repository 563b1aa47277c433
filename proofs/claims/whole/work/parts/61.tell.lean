/-! best: the reference's rows -/
section TEL
def mnN (T : aT) (g : Nat) (n : Nat) : List Nat := (List.range n).filter (fun p => T 10 p == (g : Int))
def mnA (T : aT) (g : Nat) : List Nat := mnN T g (T 0 4).toNat
def wyN (T : aT) (p : Nat) : Nat := 2 + (T 7 (T 8 p).toNat).toNat
def msN (T : aT) (l : List Nat) : List (Nat × Nat) := l.map (fun p => (p, wyN T p))
theorem mn_s {T : aT} {g n : Nat} : mnN T g (n + 1) = mnN T g n ++ if T 10 n = (g : Int) then [n] else [] := by
  unfold mnN
  rw [List.range_succ, List.filter_append]
  by_cases z : T 10 n = (g : Int)
  · rw [if_pos z]
    simp [z]
  · rw [if_neg z]
    simp [z]
theorem mn_len {T : aT} {g : Nat} : ∀ n : Nat, (mnN T g n).length ≤ n
  | 0 => by simp [mnN]
  | n + 1 => by
    have := mn_len (T := T) (g := g) n
    rw [mn_s, List.length_append]
    split <;> simp <;> omega
theorem mn_mem {T : aT} {g n p : Nat} (h : p ∈ mnN T g n) : p < n ∧ T 10 p = (g : Int) := by
  unfold mnN at h
  rw [List.mem_filter, List.mem_range] at h
  exact ⟨h.1, by simpa using h.2⟩
def mnD (D : aD) (c j a : Nat) (l : List Nat) : Prop := gI D c j = cI (l.length : Int) ∧ ∀ (i q : Nat), l[i]? = some q → gI D a i = cI (q : Int)
theorem push_get {l : List Nat} {x i q : Nat} (h : (l ++ [x])[i]? = some q) : (i = l.length ∧ q = x) ∨ (i < l.length ∧ l[i]? = some q) := by
  by_cases y : i = l.length
  · subst y
    rw [List.getElem?_append_right (by omega), Nat.sub_self] at h
    cases h
    exact Or.inl ⟨rfl, rfl⟩
  · have hlt : i < l.length := by
      have := (List.getElem?_eq_some_iff.mp h).1
      simp at this
      omega
    rw [List.getElem?_append_left hlt] at h
    exact Or.inr ⟨hlt, h⟩
theorem tellMine_ok {D : aD} {T : aT} {g : Nat} (hT : TOKs T) (hP : T 0 4 ≤ 12) (hM : MS D T) (hg : (g : Int) < T 0 3) :
    Ok (f_X12_tellMine (cI (g : Int)) D) (fun D' => mnD D' 88 41 113 (mnA T g) ∧ (∀ k j : Nat, k ≠ 113 → ¬ (k = 88 ∧ j = 41) → gI D' k j = gI D k j) ∧ D'.2 = D.2) := by
  have hq := hT.1
  unfold f_X12_tellMine J_X12_tellMine_7
  rw [e_let]
  refine ok_bindI (ok_lp (fun i t => t.1 = cI (i : Int) ∧ mnD t.2 88 41 113 (mnN T g i) ∧ (∀ k j : Nat, k ≠ 113 → ¬ (k = 88 ∧ j = 41) → gI t.2 k j = gI D k j) ∧ t.2.2 = D.2) (T 0 4).toNat (by omega) ⟨rfl, ⟨gI_eq, fun i q h => by simp [mnN] at h⟩, fun k j a b => gI_fr (by omega), rfl⟩ ?_)
  rintro i ⟨x, D1⟩ hi ⟨rfl, ⟨g1, g1'⟩, g2, g3⟩
  show Ok (B_X12_tellMine_7 (cI (g : Int)) (cI (i : Int)) D1) _
  have g2' : ∀ k j : Nat, k ≠ 113 → ¬ (k = 88 ∧ j = 41) → gI D1 k j = gI D k j := g2
  have g1a : gI D1 88 41 = cI ((mnN T g i).length : Int) := g1
  have m30 : gI D1 88 30 = cI (T 0 4) := (g2' _ _ (by omega) (by omega)).trans hM.2.2.2.2.2.1
  have len := mn_len (T := T) (g := g) i
  have e : ((i : Int)).toNat = i := by omega
  have el : (((mnN T g i).length : Nat) : Int).toNat = (mnN T g i).length := by omega
  unfold B_X12_tellMine_7
  by_cases c : (i : Int) < T 0 4
  · have a101 : gI D1 101 i = cI (T 10 i) := (g2' _ _ (by omega) (by omega)).trans (hM.2.2.1 2 i (by omega) c)
    have r := hT.2.2.2.1 i c
    have st := mn_s (T := T) (g := g) (n := i)
    by_cases z : T 10 i = (g : Int)
    · rw [if_pos z] at st
      have k1 : gI (pI D1 113 (mnN T g i).length (cI (i : Int))) 88 41 = cI ((mnN T g i).length : Int) := (gI_fr (by omega)).trans g1a
      simp (disch := omega) only [e_bi, e_bind, e_let, e_tr, e_tl, cLm1, cLm2, cL0, cL1, cL2, cL3, cL4, cL5, cL6, cL7, cL8, cL9, cL10, cL11, cL12, cL13, cL14, cL15, cL16, cL17, cL18, cL19, cL20, cL21, cL22, cL23, cL24, cL25, cL29, cL30, cL31, cL32, cL36, cL48, cL50, cL51, cL52, cL64, cL99, cL100, cL700, cL1000, cL9999, cL10000, cI_add, cI_sub, cI_mul, cI_neg, cI_lt, cI_le, cI_eq, ne_eq, ifp, ifn, bI_p, bI_n, aZ_0, aZ_1, aZ_b, e_gdt, e_ifT, e_ifF, not_true_eq_false, not_false_eq_true, e_gd, cI_inT, cI_nat, e, el, m30, a101, g1a, k1]
      refine ok_someI (Or.inl ⟨_, rfl, by omega, rfl, ⟨?_, fun n q h => ?_⟩, fun k j a b => (gI_fr (by omega)).trans ((gI_fr (by omega)).trans (g2' k j a b)), g3⟩)
      · show gI (pI _ 88 41 _) 88 41 = _
        rw [gI_eq, st, List.length_append]
        rfl
      · show gI (pI (pI D1 113 _ _) 88 41 _) 113 n = _
        rw [gI_fr (by omega)]
        rw [st] at h
        rcases push_get h with ⟨h1, h2⟩ | ⟨h1, h2⟩
        · subst h1; subst h2; exact gI_eq
        · rw [gI_fr (by omega)]; exact g1' n q h2
    · rw [if_neg z, List.append_nil] at st
      simp (disch := omega) only [e_bi, e_bind, e_let, e_tr, e_tl, cLm1, cLm2, cL0, cL1, cL2, cL3, cL4, cL5, cL6, cL7, cL8, cL9, cL10, cL11, cL12, cL13, cL14, cL15, cL16, cL17, cL18, cL19, cL20, cL21, cL22, cL23, cL24, cL25, cL29, cL30, cL31, cL32, cL36, cL48, cL50, cL51, cL52, cL64, cL99, cL100, cL700, cL1000, cL9999, cL10000, cI_add, cI_sub, cI_mul, cI_neg, cI_lt, cI_le, cI_eq, ne_eq, ifp, ifn, bI_p, bI_n, aZ_0, aZ_1, aZ_b, e_gdt, e_ifT, e_ifF, not_true_eq_false, not_false_eq_true, e_gd, cI_inT, cI_nat, e, m30, a101]
      exact ok_someI (Or.inl ⟨_, rfl, by omega, rfl, by rw [st]; exact ⟨g1, g1'⟩, g2, g3⟩)
  · obtain rfl : i = (T 0 4).toNat := by omega
    simp (disch := omega) only [e_bi, e_bind, e_let, e_tr, e_tl, cLm1, cLm2, cL0, cL1, cL2, cL3, cL4, cL5, cL6, cL7, cL8, cL9, cL10, cL11, cL12, cL13, cL14, cL15, cL16, cL17, cL18, cL19, cL20, cL21, cL22, cL23, cL24, cL25, cL29, cL30, cL31, cL32, cL36, cL48, cL50, cL51, cL52, cL64, cL99, cL100, cL700, cL1000, cL9999, cL10000, cI_add, cI_sub, cI_mul, cI_neg, cI_lt, cI_le, cI_eq, ne_eq, ifp, ifn, bI_p, bI_n, aZ_0, aZ_1, aZ_b, e_gdt, e_ifT, e_ifF, not_true_eq_false, not_false_eq_true, e_gd, m30]
    exact ok_someI (Or.inr ⟨_, rfl, ok_someI ⟨⟨g1, g1'⟩, g2, g3⟩⟩)
theorem MS_up {D : aD} {T : aT} {H : Nat → Int} {m : Nat} {v : Int} (hM : MS D (hwT T H)) : MS (pI D 106 m (cI v)) (hwT T (upH H m v)) := by
  obtain ⟨a1, a2, a3, a4, a5, a6, a7, a8, a9, a10⟩ := hM
  refine ⟨fun j a b => (gI_fr (by omega)).trans (a1 j a b), fun f s a b => ?_, fun r p a b => ?_, fun i a => (gI_fr (by omega)).trans (a4 i a), fun m a => (gI_fr (by omega)).trans (a5 m a), (gI_fr (by omega)).trans a6, fun p a => ?_, fun i a => (gI_fr (by omega)).trans (a8 i a), (gI_fr (by omega)).trans a9, (gI_fr (by omega)).trans a10⟩
  · have k := a2 f s a b
    rw [hw_o (by omega)] at k ⊢
    exact (gI_fr (by omega)).trans k
  · have k := a3 r p a b
    rw [hw_o (by omega)] at k ⊢
    exact (gI_fr (by omega)).trans k
  · show gI _ 106 p = cI (upH H m v p)
    by_cases y : p = m
    · subst y; rw [gI_eq, upH_eq]
    · rw [gI_fr (by omega), upH_o y]; exact a7 p a
def bsD (D : aD) (l : List Nat) (st : Int × (Nat → Int)) : Prop := gI D 88 42 = cI st.1 ∧ (st.1 ≠ -1 → ∀ i q : Nat, l[i]? = some q → gI D 114 i = cI (st.2 q))
def frB (T : aT) (D D' : aD) : Prop := (∀ k j : Nat, ¬ (108 ≤ k ∧ k ≤ 112) → k ≠ 114 → ¬ (k = 106 ∧ (j : Int) < T 0 4) → ¬ (k = 88 ∧ j = 42) → gI D' k j = gI D k j) ∧ D'.2 = D.2
theorem turnOn_ok {T : aT} {g n : Nat} {l : List Nat} (hT : TOKs T) (hP : T 0 4 ≤ 12) (hg : (g : Int) < T 0 3) (hl : l.length = n) (hn : n ≤ 6) (hin : ∀ p : Nat, p ∈ l → (p : Int) < T 0 4) : ∀ (m : List Nat) (f i : Nat) (H : Nat → Int) (D : aD) (st : Int × (Nat → Int)), m = l.drop i → i ≤ n → n - i < f → (∀ p : Nat, 0 ≤ H p ∧ H p ≤ 2) → MS D (hwT T H) → mnD D 88 41 113 l → bsD D l st → (-1 ≤ st.1 ∧ st.1 ≤ 1000) →
    Ok (N_X12_turnOn f (cI (g : Int)) (cI (i : Int)) D) (fun D' => bsD D' l ((rwF (msN T m) H).foldl (fsV (valN T g)) st) ∧ (-1 ≤ ((rwF (msN T m) H).foldl (fsV (valN T g)) st).1 ∧ ((rwF (msN T m) H).foldl (fsV (valN T g)) st).1 ≤ 1000) ∧ MS D' (hwT T H) ∧ frB T D D') := by
  have hq := hT.1
  intro m
  induction m with
  | nil =>
    intro f i H D st hm hi hf hH hM hmn hb hst
    obtain ⟨f, rfl⟩ : ∃ g, f = g + 1 := ⟨f - 1, by omega⟩
    have ein : i = n := by
      have := congrArg List.length hm
      rw [List.length_drop] at this
      simp at this
      omega
    subst ein
    have hTH := hw_ok (H := H) hT (fun p _ => hH p)
    have wb := wt_b (T := hwT T H) (g := g) (n := 5) (by rw [hw_o (by omega)]; exact hT.2.1) (by omega)
    have vb : 0 ≤ valN T g H ∧ valN T g H ≤ 495 := wb
    have fe : (rwF (msN T []) H).foldl (fsV (valN T g)) st = fsV (valN T g) st H := rfl
    rw [fe]
    show Ok (F_X12_turnOn (N_X12_turnOn f) (cI (g : Int)) (cI (i : Int)) D) _
    unfold F_X12_turnOn
    rw [if_neg (show ¬ (cI (i : Int) ≠ gI D 88 41) by rw [hmn.1, hl]; exact fun z => z rfl)]
    refine ok_biI ((mwon_ok (g := g) hTH hM (by rw [hw_o (by omega)]; exact hg)).mono fun r q => ?_)
    obtain ⟨y, D1⟩ := r
    obtain ⟨q1, q2, q3⟩ := q
    obtain rfl : y = cI (valN T g H) := q1
    have q2' : ∀ k j : Nat, ¬ (108 ≤ k ∧ k ≤ 112) → gI D1 k j = gI D k j := q2
    have b42 : gI D1 88 42 = cI st.1 := (q2' _ _ (by omega)).trans hb.1
    have hM1 : MS D1 (hwT T H) := hM.fr (fun k j a => q2' k j (by omega)) (fun j a b => q2' _ j (by omega))
    dsimp only
    rw [b42]
    by_cases z : st.1 < valN T g H
    · have e : fsV (valN T g) st H = (valN T g H, H) := if_pos z
      rw [e, if_pos (show cI st.1 < cI (valN T g H) by rw [cI_lt (by omega) (by omega) (by omega) (by omega)]; exact z), e_let]
      unfold J_X12_turnOn_31
      refine ok_bindI (ok_lp (fun a t => t.1 = cI (a : Int) ∧ (∀ j q : Nat, j < a → l[j]? = some q → gI t.2 114 j = cI (H q)) ∧ (∀ k j : Nat, k ≠ 114 → gI t.2 k j = gI (pI D1 88 42 (cI (valN T g H))) k j) ∧ t.2.2 = D1.2) i (by omega) ⟨rfl, fun j q h => absurd h (by omega), fun _ _ _ => rfl, rfl⟩ ?_)
      rintro a ⟨x, D2⟩ ha ⟨rfl, m1, m2, m3⟩
      show Ok (B_X12_turnOn_31 (N_X12_turnOn f) (cI (i : Int)) (cI (a : Int)) D2) _
      have m2' : ∀ k j : Nat, k ≠ 114 → gI D2 k j = gI (pI D1 88 42 (cI (valN T g H))) k j := m2
      unfold B_X12_turnOn_31
      by_cases c : a < i
      · have gl := List.getElem?_eq_getElem (show a < l.length by omega)
        generalize l[a]'(show a < l.length by omega) = p at gl
        have hp := hin p (List.mem_of_getElem? gl)
        have c113 : gI D2 113 a = cI (p : Int) := by rw [m2' _ _ (by omega), gI_fr (by omega), q2' _ _ (by omega)]; exact hmn.2 a p gl
        have c106 : gI D2 106 p = cI (H p) := by rw [m2' _ _ (by omega), gI_fr (by omega)]; exact hM1.2.2.2.2.2.2.1 p hp
        have e1 : ((a : Int)).toNat = a := by omega
        have e2 : ((p : Int)).toNat = p := by omega
        simp (disch := omega) only [e_bi, e_bind, e_let, e_tr, e_tl, cLm1, cLm2, cL0, cL1, cL2, cL3, cL4, cL5, cL6, cL7, cL8, cL9, cL10, cL11, cL12, cL13, cL14, cL15, cL16, cL17, cL18, cL19, cL20, cL21, cL22, cL23, cL24, cL25, cL29, cL30, cL31, cL32, cL36, cL48, cL50, cL51, cL52, cL64, cL99, cL100, cL700, cL1000, cL9999, cL10000, cI_add, cI_sub, cI_mul, cI_neg, cI_lt, cI_le, cI_eq, ne_eq, ifp, ifn, bI_p, bI_n, aZ_0, aZ_1, aZ_b, e_gdt, e_ifT, e_ifF, not_true_eq_false, not_false_eq_true, e_gd, cI_inT, cI_nat, e1, e2, c113, c106]
        refine ok_someI (Or.inl ⟨_, rfl, c, rfl, fun j q hj h => ?_, fun k j b => (gI_fr (by omega)).trans (m2' k j b), m3⟩)
        show gI (pI D2 114 a (cI (H p))) 114 j = _
        by_cases y : j = a
        · subst y
          rw [gl] at h
          cases h
          exact gI_eq
        · rw [gI_fr (by omega)]; exact m1 j q (by omega) h
      · obtain rfl : a = i := by omega
        rw [if_pos (show cI (a : Int) ≤ cI (a : Int) by rw [cI_le (by omega) (by omega) (by omega) (by omega)]; omega)]
        refine ok_someI (Or.inr ⟨_, rfl, ok_someI ⟨⟨?_, fun _ j q h => m1 j q (by have := (List.getElem?_eq_some_iff.mp h).1; omega) h⟩, by dsimp only; omega, hM1.fr (fun k j a => (m2' k j (by omega)).trans (gI_fr (by omega))) (fun j a b => (m2' _ j (by omega)).trans (gI_fr (by omega))), fun k j a b c d => (m2' k j b).trans ((gI_fr (by omega)).trans (q2' k j a)), m3.trans q3⟩⟩)
        rw [m2' _ _ (by omega)]
        exact gI_eq
    · have e : fsV (valN T g) st H = st := if_neg z
      rw [e, if_neg (show ¬ (cI st.1 < cI (valN T g H)) by rw [cI_lt (by omega) (by omega) (by omega) (by omega)]; exact z)]
      exact ok_someI ⟨⟨b42, fun y j q h => (q2' _ _ (by omega)).trans (hb.2 y j q h)⟩, hst, hM1, fun k j a b c d => q2' k j a, q3⟩
  | cons p m ih =>
    intro f i H D st hm hi hf hH hM hmn hb hst
    obtain ⟨f, rfl⟩ : ∃ g, f = g + 1 := ⟨f - 1, by omega⟩
    have lt : i < n := by
      have := congrArg List.length hm
      rw [List.length_drop] at this
      simp at this
      omega
    have gl : l[i]? = some p := by
      have := congrArg (fun x => x[0]?) hm
      rw [List.getElem?_drop] at this
      exact this.symm
    have hm' : m = l.drop (i + 1) := by
      have := congrArg List.tail hm
      rw [List.tail_drop] at this
      exact this
    have hp := hin p (List.mem_of_getElem? gl)
    have r := hT.2.2.2.1 p hp
    have r7 := hT.2.2.1 (T 8 p).toNat (by omega)
    have e1 : ((i : Int)).toNat = i := by omega
    have e2 : ((p : Int)).toNat = p := by omega
    have c113 := hmn.2 i p gl
    have c106 : gI D 106 p = cI (H p) := hM.2.2.2.2.2.2.1 p hp
    have hHp := hH p
    show Ok (F_X12_turnOn (N_X12_turnOn f) (cI (g : Int)) (cI (i : Int)) D) _
    unfold F_X12_turnOn
    rw [if_pos (show cI (i : Int) ≠ gI D 88 41 by rw [hmn.1, hl, cI_ne (by omega) (by omega) (by omega) (by omega)]; omega)]
    simp (disch := omega) only [e_gd, e_gdt, e_let, cI_inT, cI_nat, e1, e2, c113, c106]
    unfold J_X12_turnOn_81
    have rwc : rwF (msN T (p :: m)) H = (List.range (wyN T p)).flatMap (fun v : Nat => rwF (msN T m) (upH H p v)) := rfl
    rw [rwc]
    refine ok_bindI (ok_lp (fun v t => t.1 = cI (v : Int) ∧ bsD t.2 l (((List.range v).flatMap (fun v : Nat => rwF (msN T m) (upH H p v))).foldl (fsV (valN T g)) st) ∧ (-1 ≤ (((List.range v).flatMap (fun v : Nat => rwF (msN T m) (upH H p v))).foldl (fsV (valN T g)) st).1 ∧ (((List.range v).flatMap (fun v : Nat => rwF (msN T m) (upH H p v))).foldl (fsV (valN T g)) st).1 ≤ 1000) ∧ (∃ x : Int, MS t.2 (hwT T (upH H p x))) ∧ frB T D t.2) (wyN T p) (by unfold wyN; omega) ⟨rfl, hb, hst, ⟨H p, by rw [upH_id rfl]; exact hM⟩, fun _ _ _ _ _ _ => rfl, rfl⟩ ?_)
    rintro v ⟨x, D1⟩ hv ⟨rfl, g1, g2, ⟨x, g3⟩, g4⟩
    show Ok (B_X12_turnOn_81 (N_X12_turnOn f) (cI (g : Int)) (cI (i : Int)) (cI (p : Int)) (cI (H p)) (cI (v : Int)) D1) _
    have g3' : MS D1 (hwT T (upH H p x)) := g3
    have c99 : gI D1 99 p = cI (T 8 p) := by
      have k := g3'.2.2.1 0 p (by omega) (by rw [hw_o (by omega)]; exact hp)
      rw [hw_o (by omega)] at k
      exact k
    have c98 : gI D1 98 (T 8 p).toNat = cI (T 7 (T 8 p).toNat) := by
      have k := g3'.2.1 6 (T 8 p).toNat (by omega) (by rw [hw_o (by omega)]; omega)
      rw [hw_o (by omega)] at k
      exact k
    unfold B_X12_turnOn_81
    by_cases c : v < wyN T p
    · have vb : v < 2 + (T 7 (T 8 p).toNat).toNat := c
      simp (disch := omega) only [e_bi, e_bind, e_let, e_tr, e_tl, cLm1, cLm2, cL0, cL1, cL2, cL3, cL4, cL5, cL6, cL7, cL8, cL9, cL10, cL11, cL12, cL13, cL14, cL15, cL16, cL17, cL18, cL19, cL20, cL21, cL22, cL23, cL24, cL25, cL29, cL30, cL31, cL32, cL36, cL48, cL50, cL51, cL52, cL64, cL99, cL100, cL700, cL1000, cL9999, cL10000, cI_add, cI_sub, cI_mul, cI_neg, cI_lt, cI_le, cI_eq, ne_eq, ifp, ifn, bI_p, bI_n, aZ_0, aZ_1, aZ_b, e_gdt, e_ifT, e_ifF, not_true_eq_false, not_false_eq_true, e_gd, cI_inT, cI_nat, e2, c99, c98]
      have U := MS_up (m := p) (v := (v : Int)) g3'
      rw [upH_up] at U
      have mn1 : mnD (pI D1 106 p (cI (v : Int))) 88 41 113 l := ⟨(gI_fr (by omega)).trans ((g4.1 _ _ (by omega) (by omega) (by omega) (by omega)).trans hmn.1), fun i q h => (gI_fr (by omega)).trans ((g4.1 _ _ (by omega) (by omega) (by omega) (by omega)).trans (hmn.2 i q h))⟩
      have bs1 : bsD (pI D1 106 p (cI (v : Int))) l (((List.range v).flatMap (fun v : Nat => rwF (msN T m) (upH H p v))).foldl (fsV (valN T g)) st) := ⟨(gI_fr (by omega)).trans g1.1, fun z i q h => (gI_fr (by omega)).trans (g1.2 z i q h)⟩
      have call := ih f (i + 1) (upH H p v) (pI D1 106 p (cI (v : Int))) _ hm' (by omega) (by omega) (fun q => by
        by_cases y : q = p
        · subst y; rw [upH_eq]; omega
        · rw [upH_o y]; exact hH q) U mn1 bs1 g2
      refine ok_bindI (Ok.mono call fun D2 q => ?_)
      obtain ⟨q1, q2, q3, q4⟩ := q
      have nx : (List.range (v + 1)).flatMap (fun v : Nat => rwF (msN T m) (upH H p v)) = (List.range v).flatMap (fun v : Nat => rwF (msN T m) (upH H p v)) ++ rwF (msN T m) (upH H p v) := by
        rw [List.range_succ, List.flatMap_append]
        simp only [List.flatMap_cons, List.flatMap_nil, List.append_nil]
      refine ok_someI (Or.inl ⟨_, rfl, c, rfl, ?_, ?_, ⟨_, q3⟩, fun k j a b c d => (q4.1 k j a b c d).trans ((gI_fr (by omega)).trans (g4.1 k j a b c d)), q4.2.trans g4.2⟩)
      · rw [nx, List.foldl_append]; exact q1
      · rw [nx, List.foldl_append]; exact q2
    · obtain rfl : v = wyN T p := by omega
      have vb : ((wyN T p : Nat) : Int) = 2 + T 7 (T 8 p).toNat := by unfold wyN; omega
      simp (disch := omega) only [e_bi, e_bind, e_let, e_tr, e_tl, cLm1, cLm2, cL0, cL1, cL2, cL3, cL4, cL5, cL6, cL7, cL8, cL9, cL10, cL11, cL12, cL13, cL14, cL15, cL16, cL17, cL18, cL19, cL20, cL21, cL22, cL23, cL24, cL25, cL29, cL30, cL31, cL32, cL36, cL48, cL50, cL51, cL52, cL64, cL99, cL100, cL700, cL1000, cL9999, cL10000, cI_add, cI_sub, cI_mul, cI_neg, cI_lt, cI_le, cI_eq, ne_eq, ifp, ifn, bI_p, bI_n, aZ_0, aZ_1, aZ_b, e_gdt, e_ifT, e_ifF, not_true_eq_false, not_false_eq_true, e_gd, cI_inT, cI_nat, e2, c99, c98]
      refine ok_someI (Or.inr ⟨_, rfl, ?_⟩)
      unfold J_X12_turnOn_121
      simp (disch := omega) only [e_bi, e_bind, e_let, e_tr, e_tl, cLm1, cLm2, cL0, cL1, cL2, cL3, cL4, cL5, cL6, cL7, cL8, cL9, cL10, cL11, cL12, cL13, cL14, cL15, cL16, cL17, cL18, cL19, cL20, cL21, cL22, cL23, cL24, cL25, cL29, cL30, cL31, cL32, cL36, cL48, cL50, cL51, cL52, cL64, cL99, cL100, cL700, cL1000, cL9999, cL10000, cI_add, cI_sub, cI_mul, cI_neg, cI_lt, cI_le, cI_eq, ne_eq, ifp, ifn, bI_p, bI_n, aZ_0, aZ_1, aZ_b, e_gdt, e_ifT, e_ifF, not_true_eq_false, not_false_eq_true, e_gd, cI_inT, cI_nat, e2]
      have U := MS_up (m := p) (v := H p) g3'
      rw [upH_up, upH_id rfl] at U
      exact ok_someI ⟨⟨(gI_fr (by omega)).trans g1.1, fun z i q h => (gI_fr (by omega)).trans (g1.2 z i q h)⟩, g2, U, fun k j a b c d => (gI_fr (by omega)).trans (g4.1 k j a b c d), g4.2⟩
end TEL
