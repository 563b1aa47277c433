/-! groups: how many are alike -/
section GRP
def ctN {α : Type} [DecidableEq α] (K : Nat → α) (x : α) : Nat → Nat
  | 0 => 0
  | n + 1 => ctN K x n + if K n = x then 1 else 0
def isG {α : Type} [DecidableEq α] (K : Nat → α) (n G : Nat) : Prop := (∀ i : Nat, i < n → ctN K (K i) n ≤ G) ∧ ((n = 0 ∧ G = 0) ∨ ∃ i : Nat, i < n ∧ G ≤ ctN K (K i) n)
theorem isG_u {α : Type} [DecidableEq α] {K : Nat → α} {n G G' : Nat} (h : isG K n G) (h' : isG K n G') : G = G' := by
  obtain ⟨a, b⟩ := h
  obtain ⟨a', b'⟩ := h'
  rcases b with b | ⟨i, b1, b2⟩ <;> rcases b' with b' | ⟨i', b1', b2'⟩
  · omega
  · omega
  · omega
  · have := a i' b1'
    have := a' i b1
    omega
theorem ct_le {α : Type} [DecidableEq α] {K : Nat → α} {x : α} (n : Nat) : ctN K x n ≤ ctN K x (n + 1) := by rw [ctN]; omega
theorem ct_n {α : Type} [DecidableEq α] {K : Nat → α} {x : α} : ∀ n : Nat, ctN K x n ≤ n
  | 0 => Nat.le_refl 0
  | n + 1 => by
    have := ct_n (K := K) (x := x) n
    rw [ctN]
    split <;> omega
theorem ct_0 {α : Type} [DecidableEq α] {K : Nat → α} {x : α} : ∀ n : Nat, (∀ j : Nat, j < n → K j ≠ x) → ctN K x n = 0
  | 0, _ => rfl
  | n + 1, h => by rw [ctN, ct_0 n (fun j hj => h j (by omega)), if_neg (h n (by omega))]
theorem ct_cg {α β : Type} [DecidableEq α] [DecidableEq β] {K : Nat → α} {K' : Nat → β} {x : α} {y : β} : ∀ n : Nat, (∀ j : Nat, j < n → (K j = x ↔ K' j = y)) → ctN K x n = ctN K' y n
  | 0, _ => rfl
  | n + 1, h => by
    rw [ctN, ctN, ct_cg n (fun j hj => h j (by omega))]
    by_cases z : K n = x
    · rw [if_pos z, if_pos ((h n (by omega)).mp z)]
    · rw [if_neg z, if_neg (fun w => z ((h n (by omega)).mpr w))]
theorem isG_cg {α β : Type} [DecidableEq α] [DecidableEq β] {K : Nat → α} {K' : Nat → β} {n G : Nat} (h : ∀ i j : Nat, i < n → j < n → (K j = K i ↔ K' j = K' i)) (g : isG K n G) : isG K' n G := by
  have e := fun i hi => ct_cg (x := K i) (y := K' i) n (fun j hj => h i j hi hj)
  refine ⟨fun i hi => by rw [← e i hi]; exact g.1 i hi, ?_⟩
  rcases g.2 with b | ⟨i, b1, b2⟩
  · exact Or.inl b
  · exact Or.inr ⟨i, b1, by rw [← e i b1]; exact b2⟩
theorem isG_s {α : Type} [DecidableEq α] {K : Nat → α} {n G : Nat} (h : isG K n G) : isG K (n + 1) (if G < ctN K (K n) (n + 1) then ctN K (K n) (n + 1) else G) := by
  obtain ⟨a, b⟩ := h
  have one : 1 ≤ ctN K (K n) (n + 1) := by rw [ctN, if_pos rfl]; omega
  refine ⟨fun i hi => ?_, ?_⟩
  · by_cases z : K n = K i
    · rw [← z]; split <;> omega
    · have e : ctN K (K i) (n + 1) = ctN K (K i) n := by rw [ctN, if_neg z]; rfl
      rw [e]
      have : i ≠ n := fun q => z (by rw [q])
      have := a i (by omega)
      split <;> omega
  · by_cases z : G < ctN K (K n) (n + 1)
    · rw [if_pos z]; exact Or.inr ⟨n, by omega, Nat.le_refl _⟩
    · rw [if_neg z]
      rcases b with b | ⟨i, b1, b2⟩
      · omega
      · exact Or.inr ⟨i, by omega, Nat.le_trans b2 (ct_le n)⟩
theorem isG_0 {α : Type} [DecidableEq α] {K : Nat → α} : isG K 0 0 := ⟨fun i hi => absurd hi (by omega), Or.inl ⟨rfl, rfl⟩⟩
theorem isG_b {α : Type} [DecidableEq α] {K : Nat → α} {n G : Nat} (h : isG K n G) : G ≤ n ∧ (0 < n → 0 < G) := by
  refine ⟨?_, fun hn => ?_⟩
  · rcases h.2 with b | ⟨i, b1, b2⟩
    · omega
    · exact Nat.le_trans b2 (ct_n n)
  · obtain ⟨m, rfl⟩ : ∃ m, n = m + 1 := ⟨n - 1, by omega⟩
    have := h.1 m (by omega)
    rw [ctN, if_pos rfl] at this
    omega
/-- how a slot's chain goes -/
def lsG (h : Nat → Nat) : Nat → Nat → Nat
  | 0, _ => 0
  | g + 1, s => if h g = s then g + 1 else lsG h g s
theorem ls_c {h : Nat → Nat} {s : Nat} : ∀ m : Nat, (lsG h m s = 0 ∧ ∀ g : Nat, g < m → h g ≠ s) ∨ ∃ g : Nat, g < m ∧ lsG h m s = g + 1 ∧ h g = s ∧ ∀ g' : Nat, g < g' → g' < m → h g' ≠ s
  | 0 => Or.inl ⟨rfl, fun g hg => absurd hg (by omega)⟩
  | m + 1 => by
    by_cases z : h m = s
    · exact Or.inr ⟨m, by omega, by rw [lsG, if_pos z], z, fun g' a b => absurd b (by omega)⟩
    · have e : lsG h (m + 1) s = lsG h m s := by rw [lsG, if_neg z]
      rcases ls_c (h := h) (s := s) m with ⟨a, b⟩ | ⟨g, a, b, c, d⟩
      · refine Or.inl ⟨e.trans a, fun g hg => ?_⟩
        by_cases y : g = m
        · subst y; exact z
        · exact b g (by omega)
      · refine Or.inr ⟨g, by omega, e.trans b, c, fun g' u v => ?_⟩
        by_cases y : g' = m
        · subst y; exact z
        · exact d g' u (by omega)
theorem ls_cg {h h' : Nat → Nat} {s : Nat} : ∀ m : Nat, (∀ g : Nat, g < m → h g = h' g) → lsG h m s = lsG h' m s
  | 0, _ => rfl
  | m + 1, a => by rw [lsG, lsG, a m (by omega), ls_cg m (fun g hg => a g (by omega))]
def hsX (u l : Int64) : Int32 := (((((u * 31) + l) ^^^ ((((u * 31) + l).toUInt64 >>> ((10 : Int32).toInt64.toUInt64 &&& Int64.toUInt64 63)).toInt64)) ^^^ ((((u * 31) + l).toUInt64 >>> ((20 : Int32).toInt64.toUInt64 &&& Int64.toUInt64 63)).toInt64)) ^^^ ((((u * 31) + l).toUInt64 >>> ((30 : Int32).toInt64.toUInt64 &&& Int64.toUInt64 63)).toInt64)).toInt32
def hsN (k : Int64 × Int64) : Nat := (hsX k.1 k.2).toBitVec.toNat % 1024
theorem and1023 (x : Int32) : x &&& 1023 = cI ((x.toBitVec.toNat % 1024 : Nat) : Int) := by
  refine bv_of _ ?_
  rw [Int32.toBitVec_and, BitVec.toNat_and]
  exact Nat.and_two_pow_sub_one_eq_mod _ 10
theorem lg_ne {x y : Int64} (h : x ≠ y) : lg_cmp x y ≠ 0 := by
  unfold lg_cmp
  rw [if_neg h]
  split <;> decide
theorem lg_eq (x : Int64) : lg_cmp x x = 0 := lg_same x
def GQ (D : aD) (K : Nat → Int64 × Int64) (m c : Nat) (gk : Nat → Int64 × Int64) (G : Nat) : Prop := gI D 82 5 = cI (c : Int) ∧ gI D 82 6 = cI (G : Int) ∧ isG K m G ∧
  (∀ g : Nat, g < c → gJ D 84 g = (gk g).1 ∧ gJ D 85 g = (gk g).2 ∧ gI D 86 g = cI (ctN K (gk g) m : Nat) ∧ gI D 87 g = cI (lsG (fun g => hsN (gk g)) g (hsN (gk g)) : Nat)) ∧
  (∀ s : Nat, s < 1024 → gI D 83 s = cI (lsG (fun g => hsN (gk g)) c s : Nat)) ∧ (∀ g g' : Nat, g < c → g' < c → gk g = gk g' → g = g') ∧ (∀ j : Nat, j < m → ∃ g : Nat, g < c ∧ gk g = K j)
def GH (D : aD) (K : Nat → Int64 × Int64) (m : Nat) : Prop := ∃ (c : Nat) (gk : Nat → Int64 × Int64) (G : Nat), c ≤ m ∧ GQ D K m c gk G
theorem gJ_fr {D : aD} {k j k' j' : Nat} {x : Int64} (h : ¬ (k' = k ∧ j' = j)) : gJ (pJ D k j x) k' j' = gJ D k' j' := by
  unfold gJ pJ
  by_cases a : k' = k
  · subst a
    simp only [if_true, vp_updL]
    rw [if_neg (fun b => h ⟨rfl, b⟩)]
  · simp only [if_neg a]
theorem gJ_pI (D : aD) (k j k' j' : Nat) (x : Int32) : gJ (pI D k j x) k' j' = gJ D k' j' := rfl
def gkX (gk : Nat → Int64 × Int64) (c : Nat) (k : Int64 × Int64) (g : Nat) : Int64 × Int64 := if g = c then k else gk g
theorem gkX_c {gk : Nat → Int64 × Int64} {c : Nat} {k : Int64 × Int64} : gkX gk c k c = k := if_pos rfl
theorem gkX_o {gk : Nat → Int64 × Int64} {c g : Nat} {k : Int64 × Int64} (h : g ≠ c) : gkX gk c k g = gk g := if_neg h
theorem gbump {D : aD} {K : Nat → Int64 × Int64} {m c g G : Nat} {gk : Nat → Int64 × Int64} (hQ : GQ D K m c gk G) (hc : c ≤ m + 1) (hm : m < 1925) (hg : g < c) (hK : gk g = K m) :
    Ok (J_X5_add_107 (cI ((g : Int) + 1)) D) (fun D' => GH D' K (m + 1) ∧ ∀ k j : Nat, ¬ (82 ≤ k ∧ k ≤ 87) → gI D' k j = gI D k j) := by
  obtain ⟨g2, g3, g4, g5, g6, g7, g8⟩ := hQ
  have gb := isG_b g4
  obtain ⟨-, -, h86, -⟩ := g5 g hg
  have cn := ct_n (K := K) (x := gk g) m
  have e0 : (g : Int) + 1 - 1 = (g : Int) := by omega
  have e1 : ((g : Int)).toNat = g := by omega
  have c1 : ctN K (K m) (m + 1) = ctN K (gk g) m + 1 := by rw [ctN, if_pos rfl, hK]
  have gs := isG_s g4
  rw [c1] at gs
  unfold J_X5_add_107
  simp (disch := omega) only [e_bi, e_bind, e_let, e_tr, e_tl, cLm1, cLm2, cL0, cL1, cL2, cL3, cL4, cL5, cL6, cL7, cL8, cL9, cL10, cL11, cL12, cL13, cL14, cL15, cL16, cL17, cL18, cL19, cL20, cL21, cL22, cL23, cL24, cL25, cL29, cL30, cL31, cL32, cL36, cL48, cL50, cL51, cL52, cL64, cL99, cL100, cL700, cL1000, cL9999, cL10000, cI_add, cI_sub, cI_mul, cI_neg, cI_lt, cI_le, cI_eq, ne_eq, ifp, ifn, bI_p, bI_n, aZ_0, aZ_1, aZ_b, e_gdt, e_ifT, e_ifF, not_true_eq_false, not_false_eq_true, e_gd, cI_inT, cI_nat, e0, e1, h86, gI_eq]
  have h6 : gI (pI D 86 g (cI ((ctN K (gk g) m : Nat) + 1))) 82 6 = cI (G : Int) := (gI_fr (by omega)).trans g3
  rw [h6]
  have em : (if cI (G : Int) < cI (((ctN K (gk g) m : Nat) : Int) + 1) then cI (((ctN K (gk g) m : Nat) : Int) + 1) else cI (G : Int)) = cI ((if G < ctN K (gk g) m + 1 then ctN K (gk g) m + 1 else G : Nat) : Int) := by
    by_cases z : G < ctN K (gk g) m + 1
    · rw [if_pos (by rw [cI_lt (by omega) (by omega) (by omega) (by omega)]; omega), if_pos z]; rfl
    · rw [if_neg (by rw [cI_lt (by omega) (by omega) (by omega) (by omega)]; omega), if_neg z]
  refine ok_someI ⟨⟨c, gk, _, hc, ?_, gI_eq.trans em, gs, fun g' hg' => ?_, fun s hs => ?_, g7, fun j hj => ?_⟩, fun k j a => ?_⟩
  · rw [gI_fr (by omega), gI_fr (by omega)]; exact g2
  · obtain ⟨a1, a2, a3, a4⟩ := g5 g' hg'
    refine ⟨a1, a2, ?_, ?_⟩
    · rw [gI_fr (by omega)]
      by_cases z : g' = g
      · subst z
        rw [gI_eq, ctN, if_pos hK.symm]
        rfl
      · rw [gI_fr (by omega), a3, ctN, if_neg (fun w => z (g7 g' g hg' hg (by rw [hK, w]))), Nat.add_zero]
    · rw [gI_fr (by omega), gI_fr (by omega)]; exact a4
  · rw [gI_fr (by omega), gI_fr (by omega)]; exact g6 s hs
  · by_cases z : j = m
    · subst z; exact ⟨g, hg, hK⟩
    · exact g8 j (by omega)
  · rw [gI_fr (by omega), gI_fr (by omega)]
theorem gopen {D : aD} {K : Nat → Int64 × Int64} {m c G s : Nat} {gk : Nat → Int64 × Int64} {u l : Int64} (hQ : GQ D K m c gk G) (hc : c ≤ m) (hm : m < 1925) (hs : hsN (u, l) = s) (hn : ∀ g : Nat, g < c → gk g ≠ (u, l)) :
    Ok (f_X5_open (cI (s : Int)) u l D) (fun r => r.1 = cI ((c : Int) + 1) ∧ GQ r.2 K m (c + 1) (gkX gk c (u, l)) G ∧ ∀ k j : Nat, ¬ (82 ≤ k ∧ k ≤ 87) → gI r.2 k j = gI D k j) := by
  obtain ⟨g2, g3, g4, g5, g6, g7, g8⟩ := hQ
  have sl : s < 1024 := by rw [← hs]; exact Nat.mod_lt _ (by omega)
  have e1 : ((c : Int)).toNat = c := by omega
  have e2 : ((s : Int)).toNat = s := by omega
  have h83 := g6 s sl
  have lc := ls_c (h := fun g => hsN (gk g)) (s := s) c
  unfold f_X5_open
  simp (disch := omega) only [e_bi, e_bind, e_let, e_tr, e_tl, cLm1, cLm2, cL0, cL1, cL2, cL3, cL4, cL5, cL6, cL7, cL8, cL9, cL10, cL11, cL12, cL13, cL14, cL15, cL16, cL17, cL18, cL19, cL20, cL21, cL22, cL23, cL24, cL25, cL29, cL30, cL31, cL32, cL36, cL48, cL50, cL51, cL52, cL64, cL99, cL100, cL700, cL1000, cL9999, cL10000, cI_add, cI_sub, cI_mul, cI_neg, cI_lt, cI_le, cI_eq, ne_eq, ifp, ifn, bI_p, bI_n, aZ_0, aZ_1, aZ_b, e_gdt, e_ifT, e_ifF, not_true_eq_false, not_false_eq_true, e_gd, cL1925, cI_inT, cI_nat, e1, e2, gI_pJ, gI_fr, gI_eq, g2, h83]
  refine ok_someI ⟨rfl, ⟨?_, ?_, g4, fun g hg => ?_, fun t ht => ?_, fun g g' hg hg' e => ?_, fun j hj => ?_⟩, fun k j a => ?_⟩
  · rw [gI_fr (by omega)]; exact gI_eq
  · simp (disch := omega) only [gI_fr, gI_pJ]; exact g3
  · have ee : lsG (fun g => hsN (gkX gk c (u, l) g)) g (hsN (gkX gk c (u, l) g)) = lsG (fun g => hsN (gk g)) g (hsN (gkX gk c (u, l) g)) := ls_cg g (fun g' hg' => by rw [gkX_o (by omega)])
    rw [ee]
    by_cases z : g = c
    · subst z
      rw [gkX_c, hs]
      refine ⟨?_, ?_, ?_, ?_⟩
      · simp only [gJ_pI]; rw [gJ_fr (by omega)]; exact gJ_eq
      · simp only [gJ_pI]; exact gJ_eq
      · simp (disch := omega) only [gI_fr, gI_eq]
        rw [ct_0 m (fun j hj => ?_)]
        · rfl
        · obtain ⟨g', a, b⟩ := g8 j hj
          rw [← b]; exact hn g' a
      · simp (disch := omega) only [gI_fr, gI_eq]
    · obtain ⟨a1, a2, a3, a4⟩ := g5 g (by omega)
      rw [gkX_o z]
      refine ⟨?_, ?_, ?_, ?_⟩
      · simp only [gJ_pI]; rw [gJ_fr (by omega), gJ_fr (by omega)]; exact a1
      · simp only [gJ_pI]; rw [gJ_fr (by omega), gJ_fr (by omega)]; exact a2
      · simp (disch := omega) only [gI_fr, gI_pJ]; exact a3
      · simp (disch := omega) only [gI_fr, gI_pJ]; exact a4
  · have ee : lsG (fun g => hsN (gkX gk c (u, l) g)) c t = lsG (fun g => hsN (gk g)) c t := ls_cg c (fun g' hg' => by rw [gkX_o (by omega)])
    rw [lsG, gkX_c, ee, hs]
    by_cases z : t = s
    · subst z; rw [gI_eq, if_pos rfl]; rfl
    · rw [if_neg (fun w => z w.symm)]
      simp (disch := omega) only [gI_fr, gI_pJ]; exact g6 t ht
  · by_cases z : g = c
    · by_cases z' : g' = c
      · omega
      · subst z; rw [gkX_c, gkX_o z'] at e
        exact absurd e.symm (hn g' (by omega))
    · by_cases z' : g' = c
      · subst z'; rw [gkX_c, gkX_o z] at e
        exact absurd e (hn g (by omega))
      · rw [gkX_o z, gkX_o z'] at e
        exact g7 g g' (by omega) (by omega) e
  · obtain ⟨g, a, b⟩ := g8 j hj
    exact ⟨g, by omega, by rw [gkX_o (by omega)]; exact b⟩
  · simp (disch := omega) only [gI_fr, gI_pJ]
theorem isAt_eq {D : aD} {g : Nat} {k : Int64 × Int64} {u l : Int64} (hg : g < 1925) (h1 : gJ D 84 g = k.1) (h2 : gJ D 85 g = k.2) : f_X5_isAt (cI (g : Int)) u l D = some (cI (if k = (u, l) then 1 else 0), D) := by
  have e : ((g : Int)).toNat = g := by omega
  unfold f_X5_isAt
  simp (disch := omega) only [e_gd, e_gdt, cI_inT, cI_nat, e, h1, h2]
  by_cases x : k.1 = u
  · rw [x, if_neg (fun z => z (lg_eq u))]
    by_cases y : k.2 = l
    · rw [y, if_neg (fun z => z (lg_eq l)), if_pos (by rw [← x, ← y])]
      rfl
    · rw [if_pos (lg_ne y), if_neg (fun z => y (by rw [z]))]
      rfl
  · rw [if_pos (lg_ne x), if_neg (fun z => x (by rw [z]))]
    rfl
theorem gclear_ok {D : aD} {K : Nat → Int64 × Int64} : Ok (f_X5_clear D) (fun D' => GH D' K 0 ∧ ∀ k j : Nat, ¬ (82 ≤ k ∧ k ≤ 87) → gI D' k j = gI D k j) := by
  unfold f_X5_clear
  refine ok_bindI ((fill_ok (a := 83) (n := 1024) (v := 0) (by omega)).mono fun D1 q => ?_)
  obtain ⟨q1, q2, q3⟩ := q
  simp only [e_let]
  refine ok_someI ⟨⟨0, fun _ => (0, 0), 0, Nat.le_refl 0, ?_, gI_eq, isG_0, fun g hg => absurd hg (by omega), fun s hs => ?_, fun g g' hg => absurd hg (by omega), fun j hj => absurd hj (by omega)⟩, fun k j a => ?_⟩
  · rw [gI_fr (by omega)]; exact gI_eq
  · rw [gI_fr (by omega), gI_fr (by omega)]; exact q1 s hs
  · rw [gI_fr (by omega), gI_fr (by omega)]; exact q2 k j (by omega)
theorem gadd_ok {D : aD} {K : Nat → Int64 × Int64} {m : Nat} {u l : Int64} (hG : GH D K m) (hm : m < 1925) (hK : K m = (u, l)) : Ok (f_X5_add u l D) (fun D' => GH D' K (m + 1) ∧ ∀ k j : Nat, ¬ (82 ≤ k ∧ k ≤ 87) → gI D' k j = gI D k j) := by
  obtain ⟨c, gk, G, g1, hQ⟩ := hG
  have ⟨g2, g3, g4, g5, g6, g7, g8⟩ := hQ
  have gb := isG_b g4
  have sl : hsN (u, l) < 1024 := Nat.mod_lt _ (by omega)
  have hx : (((((u * 31) + l) ^^^ ((((u * 31) + l).toUInt64 >>> ((10 : Int32).toInt64.toUInt64 &&& Int64.toUInt64 63)).toInt64)) ^^^ ((((u * 31) + l).toUInt64 >>> ((20 : Int32).toInt64.toUInt64 &&& Int64.toUInt64 63)).toInt64)) ^^^ ((((u * 31) + l).toUInt64 >>> ((30 : Int32).toInt64.toUInt64 &&& Int64.toUInt64 63)).toInt64)).toInt32 &&& 1023 = cI (hsN (u, l) : Nat) := and1023 (hsX u l)
  have se : ((hsN (u, l) : Nat) : Int).toNat = hsN (u, l) := by omega
  unfold f_X5_add
  simp only [e_let]
  rw [hx]
  generalize hs : hsN (u, l) = s at sl hx se
  have h83 := g6 s sl
  simp (disch := omega) only [e_gd, e_gdt, e_let, cI_inT, cI_nat, se, h83]
  unfold J_X5_add_48
  have L : Ok (aLp (fun s' : Int32 × Int32 × aD => B_X5_add_48 u l (cI (s : Int)) s'.1 s'.2.1 s'.2.2) (cI (lsG (fun g => hsN (gk g)) c s : Nat), cI 0, D)) (fun r => r.2 = D ∧ ((r.1 = cI 0 ∧ ∀ g : Nat, g < c → gk g ≠ (u, l)) ∨ ∃ g : Nat, g < c ∧ r.1 = cI ((g : Int) + 1) ∧ gk g = (u, l))) := by
    refine ok_lp (fun i t => t.2.2 = D ∧ t.2.1 = cI (i : Int) ∧ ∃ M : Nat, i + M ≤ c ∧ t.1 = cI (lsG (fun g => hsN (gk g)) M s : Nat) ∧ ∀ g : Nat, M ≤ g → g < c → gk g ≠ (u, l)) c (by omega) ⟨rfl, rfl, c, by omega, rfl, fun g a b => absurd a (by omega)⟩ ?_
    rintro i ⟨x, y, D1⟩ hi ⟨q1, q2, M, hM, q3, q4⟩
    obtain rfl : D1 = D := q1
    obtain rfl : y = cI (i : Int) := q2
    obtain rfl : x = cI (lsG (fun g => hsN (gk g)) M s : Nat) := q3
    show Ok (B_X5_add_48 u l (cI (s : Int)) (cI (lsG (fun g => hsN (gk g)) M s : Nat)) (cI (i : Int)) D1) _
    unfold B_X5_add_48
    by_cases c1 : c ≤ i
    · obtain rfl : M = 0 := by omega
      simp (disch := omega) only [e_bi, e_bind, e_let, e_tr, e_tl, cLm1, cLm2, cL0, cL1, cL2, cL3, cL4, cL5, cL6, cL7, cL8, cL9, cL10, cL11, cL12, cL13, cL14, cL15, cL16, cL17, cL18, cL19, cL20, cL21, cL22, cL23, cL24, cL25, cL29, cL30, cL31, cL32, cL36, cL48, cL50, cL51, cL52, cL64, cL99, cL100, cL700, cL1000, cL9999, cL10000, cI_add, cI_sub, cI_mul, cI_neg, cI_lt, cI_le, cI_eq, ne_eq, ifp, ifn, bI_p, bI_n, aZ_0, aZ_1, aZ_b, e_gdt, e_ifT, e_ifF, not_true_eq_false, not_false_eq_true, e_gd, g2]
      exact ok_someI (Or.inr ⟨_, rfl, rfl, Or.inl ⟨rfl, fun g hg => q4 g (by omega) hg⟩⟩)
    · rcases ls_c (h := fun g => hsN (gk g)) (s := s) M with ⟨e0, a⟩ | ⟨g, gM, e1, hgs, hno⟩
      · rw [e0]
        simp (disch := omega) only [e_bi, e_bind, e_let, e_tr, e_tl, cLm1, cLm2, cL0, cL1, cL2, cL3, cL4, cL5, cL6, cL7, cL8, cL9, cL10, cL11, cL12, cL13, cL14, cL15, cL16, cL17, cL18, cL19, cL20, cL21, cL22, cL23, cL24, cL25, cL29, cL30, cL31, cL32, cL36, cL48, cL50, cL51, cL52, cL64, cL99, cL100, cL700, cL1000, cL9999, cL10000, cI_add, cI_sub, cI_mul, cI_neg, cI_lt, cI_le, cI_eq, ne_eq, ifp, ifn, bI_p, bI_n, aZ_0, aZ_1, aZ_b, e_gdt, e_ifT, e_ifF, not_true_eq_false, not_false_eq_true, e_gd, g2]
        refine ok_someI (Or.inr ⟨_, rfl, rfl, Or.inl ⟨rfl, fun g hg z => ?_⟩⟩)
        by_cases y : M ≤ g
        · exact q4 g y hg z
        · exact a g (by omega) (by rw [z]; exact hs)
      · rw [e1]
        obtain ⟨a1, a2, a3, a4⟩ := g5 g (by omega)
        have ia := isAt_eq (D := D1) (u := u) (l := l) (show g < 1925 by omega) a1 a2
        have e2 : (((g + 1 : Nat)) : Int) - 1 = (g : Int) := by omega
        have e3 : ((g : Int)).toNat = g := by omega
        by_cases z : gk g = (u, l)
        · rw [if_pos z] at ia
          have ia' : f_X5_isAt (cI (g : Int)) u l D1 = some (cI 1, D1) := ia
          simp (disch := omega) only [e_bi, e_bind, e_let, e_tr, e_tl, cLm1, cLm2, cL0, cL1, cL2, cL3, cL4, cL5, cL6, cL7, cL8, cL9, cL10, cL11, cL12, cL13, cL14, cL15, cL16, cL17, cL18, cL19, cL20, cL21, cL22, cL23, cL24, cL25, cL29, cL30, cL31, cL32, cL36, cL48, cL50, cL51, cL52, cL64, cL99, cL100, cL700, cL1000, cL9999, cL10000, cI_add, cI_sub, cI_mul, cI_neg, cI_lt, cI_le, cI_eq, ne_eq, ifp, ifn, bI_p, bI_n, aZ_0, aZ_1, aZ_b, e_gdt, e_ifT, e_ifF, not_true_eq_false, not_false_eq_true, e_gd, g2, e2, ia']
          exact ok_someI (Or.inr ⟨_, rfl, rfl, Or.inr ⟨g, by omega, rfl, z⟩⟩)
        · rw [if_neg z] at ia
          have ia' : f_X5_isAt (cI (g : Int)) u l D1 = some (cI 0, D1) := ia
          have hgs' : hsN (gk g) = s := hgs
          rw [hgs'] at a4
          simp (disch := omega) only [e_bi, e_bind, e_let, e_tr, e_tl, cLm1, cLm2, cL0, cL1, cL2, cL3, cL4, cL5, cL6, cL7, cL8, cL9, cL10, cL11, cL12, cL13, cL14, cL15, cL16, cL17, cL18, cL19, cL20, cL21, cL22, cL23, cL24, cL25, cL29, cL30, cL31, cL32, cL36, cL48, cL50, cL51, cL52, cL64, cL99, cL100, cL700, cL1000, cL9999, cL10000, cI_add, cI_sub, cI_mul, cI_neg, cI_lt, cI_le, cI_eq, ne_eq, ifp, ifn, bI_p, bI_n, aZ_0, aZ_1, aZ_b, e_gdt, e_ifT, e_ifF, not_true_eq_false, not_false_eq_true, e_gd, g2, e2, e3, ia', cI_inT, cI_nat, a4]
          refine ok_someI (Or.inl ⟨_, rfl, by omega, rfl, rfl, g, by omega, rfl, fun g' a b => ?_⟩)
          by_cases y : g' = g
          · subst y; exact z
          · by_cases y2 : M ≤ g'
            · exact q4 g' y2 b
            · intro w
              exact hno g' (by omega) (by omega) (by show hsN (gk g') = s; rw [w]; exact hs)
  refine ok_bindI (L.mono fun r q => ?_)
  obtain ⟨v, D1⟩ := r
  obtain ⟨q1, q2⟩ := q
  obtain rfl : D1 = D := q1
  show Ok (J_X5_add_92 u l (cI (s : Int)) v D1) _
  unfold J_X5_add_92
  rcases q2 with ⟨q2, q3⟩ | ⟨g, hg, q2, q3⟩
  · obtain rfl : v = cI 0 := q2
    rw [if_neg (show ¬ (cI 0 ≠ 0) from fun z => z rfl)]
    refine ok_biI ((gopen hQ g1 hm hs q3).mono fun r q => ?_)
    obtain ⟨y, D2⟩ := r
    obtain ⟨p1, p2, p3⟩ := q
    obtain rfl : y = _ := p1
    exact (gbump (g := c) p2 (by omega) hm (by omega) (by rw [gkX_c, hK])).mono fun D3 q => ⟨q.1, fun k j a => (q.2 k j a).trans (p3 k j a)⟩
  · obtain rfl : v = cI ((g : Int) + 1) := q2
    rw [if_pos (show cI ((g : Int) + 1) ≠ 0 by rw [cL0, cI_ne (by omega) (by omega) (by omega) (by omega)]; omega)]
    exact gbump hQ (by omega) hm hg (q3.trans hK.symm)
end GRP
