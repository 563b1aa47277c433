/-! rest: rounds (17) -/
section RES
def seqN (T : aT) : Nat → (Nat → Int)
  | 0 => h13 T
  | r + 1 => (rdN T (seqN T r)).2
def tnN (T : aT) (r : Nat) : Bool := (rdN T (seqN T r)).1
def rsF (T : aT) : Nat → Nat → Int
  | _, 0 => -1
  | r, k + 1 => if tnN T r then rsF T (r + 1) k else (r : Int)
theorem seq_b {T : aT} (hp : TOKp T) (hn : TOKn T) : ∀ r : Nat, (∀ p : Nat, 0 ≤ seqN T r p ∧ seqN T r p ≤ 2) ∧ ∀ p : Nat, ¬ (p : Int) < T 0 4 → seqN T r p = 0
  | 0 => ⟨h13_b hn, fun p h => if_neg h⟩
  | r + 1 => by
    have a := seq_b hp hn r
    exact rn_b hp (TOKs.of hp hn) a.1 a.2 _
theorem rs_sk {T : aT} : ∀ (r : Nat), r ≤ 21 → (∀ j : Nat, j < r → tnN T j = true) → rsF T 0 21 = rsF T r (21 - r)
  | 0, _, _ => rfl
  | r + 1, h, ht => by
    rw [rs_sk r (by omega) (fun j hj => ht j (by omega)), show 21 - r = (21 - (r + 1)) + 1 by omega, rsF, if_pos (ht r (by omega))]
theorem rs_on {T : aT} (h : ∀ n : Nat, tnN T n = true) : ∀ k r : Nat, rsF T r k = -1
  | 0, _ => rfl
  | k + 1, r => by rw [rsF, if_pos (h r)]; exact rs_on h k (r + 1)
theorem seq_rep {T : aT} {i r : Nat} (hi : i < r) (e : seqN T i = seqN T r) (ht : ∀ j : Nat, j < r → tnN T j = true) : ∀ n : Nat, tnN T n = true := by
  have per : ∀ d : Nat, seqN T (i + d) = seqN T (r + d) := by
    intro d
    induction d with
    | zero => exact e
    | succ d ih =>
      show (rdN T (seqN T (i + d))).2 = (rdN T (seqN T (r + d))).2
      rw [ih]
  have key : ∀ m n : Nat, n ≤ m → tnN T n = true := by
    intro m
    induction m with
    | zero => intro n hn; exact ht n (by omega)
    | succ m ih =>
      intro n hn
      by_cases c : n < r
      · exact ht n c
      · have e1 := per (n - r)
        rw [show r + (n - r) = n by omega] at e1
        unfold tnN
        rw [← e1]
        exact ih (i + (n - r)) (by omega)
  exact fun n => key n n (Nat.le_refl n)
def cdN (H : Nat → Int) : Nat → Int
  | 0 => 0
  | n + 1 => cdN H n * 3 + H n
theorem cd_b {H : Nat → Int} (hH : ∀ p : Nat, 0 ≤ H p ∧ H p ≤ 2) : ∀ n : Nat, 0 ≤ cdN H n ∧ cdN H n < 3 ^ n
  | 0 => by simp [cdN]
  | n + 1 => by
    have a := cd_b hH n
    have b := hH n
    rw [cdN, Int.pow_succ]
    omega
theorem cd_i {H H' : Nat → Int} (hH : ∀ p : Nat, 0 ≤ H p ∧ H p ≤ 2) (hH' : ∀ p : Nat, 0 ≤ H' p ∧ H' p ≤ 2) : ∀ n : Nat, cdN H n = cdN H' n → ∀ p : Nat, p < n → H p = H' p
  | 0, _ => fun p h => absurd h (by omega)
  | n + 1, e => by
    have b := hH n
    have b' := hH' n
    rw [cdN, cdN] at e
    have c := cd_i hH hH' n (by omega)
    intro p hp
    by_cases z : p = n
    · subst z; omega
    · exact c p (by omega)
theorem p3 {n : Nat} (h : n ≤ 12) : (3 : Int) ^ n ≤ 531441 := by
  have e : n = 0 ∨ n = 1 ∨ n = 2 ∨ n = 3 ∨ n = 4 ∨ n = 5 ∨ n = 6 ∨ n = 7 ∨ n = 8 ∨ n = 9 ∨ n = 10 ∨ n = 11 ∨ n = 12 := by omega
  rcases e with rfl | rfl | rfl | rfl | rfl | rfl | rfl | rfl | rfl | rfl | rfl | rfl | rfl <;> decide
theorem allT_eq {D : aD} {T : aT} {H : Nat → Int} (hp : TOKp T) (hC : CP D 2 T) (hK : CK D (hwT T H) (wOn T)) : f_X3_allTurned D = some (cI (cdN H (T 0 4).toNat), D) := by
  have hq := hp.1
  have p4 := (CP.two hC).2.2.1 4 (by omega) (by omega)
  have L : aLp (fun s : Int32 × Int32 × aD => B_X3_allTurned_4 s.1 s.2.1 s.2.2) (cI 0, cI 0, D) = some (cI (cdN H (T 0 4).toNat), D) := by
    refine lp_cnt (body := fun s : Int32 × Int32 × aD => B_X3_allTurned_4 s.1 s.2.1 s.2.2) (T 0 4).toNat (by omega) (fun i => (cI (cdN H i), cI (i : Int), D)) (cI (cdN H (T 0 4).toNat), D) ?_ ?_
    · intro i hi
      have k : gI D 63 i = cI (H i) := (hK.2.1 i (by rw [hw_o (by omega)]; omega)).2.2
      have e : ((i : Int)).toNat = i := by omega
      show B_X3_allTurned_4 (cI (cdN H i)) (cI (i : Int)) D = _
      unfold B_X3_allTurned_4
      simp (disch := omega) only [e_bi, e_bind, e_let, e_tr, e_tl, cLm1, cLm2, cL0, cL1, cL2, cL3, cL4, cL5, cL6, cL7, cL8, cL9, cL10, cL11, cL12, cL13, cL14, cL15, cL16, cL17, cL18, cL19, cL20, cL21, cL22, cL23, cL24, cL25, cL29, cL30, cL31, cL32, cL36, cL48, cL50, cL51, cL52, cL64, cL99, cL100, cL700, cL1000, cL9999, cL10000, cI_add, cI_sub, cI_mul, cI_neg, cI_lt, cI_le, cI_eq, ne_eq, ifp, ifn, bI_p, bI_n, aZ_0, aZ_1, aZ_b, e_gdt, e_ifT, e_ifF, not_true_eq_false, not_false_eq_true, e_gd, cI_inT, cI_nat, e, p4, k]
      rfl
    · show B_X3_allTurned_4 (cI (cdN H (T 0 4).toNat)) (cI ((T 0 4).toNat : Nat)) D = _
      unfold B_X3_allTurned_4
      simp (disch := omega) only [e_bi, e_bind, e_let, e_tr, e_tl, cLm1, cLm2, cL0, cL1, cL2, cL3, cL4, cL5, cL6, cL7, cL8, cL9, cL10, cL11, cL12, cL13, cL14, cL15, cL16, cL17, cL18, cL19, cL20, cL21, cL22, cL23, cL24, cL25, cL29, cL30, cL31, cL32, cL36, cL48, cL50, cL51, cL52, cL64, cL99, cL100, cL700, cL1000, cL9999, cL10000, cI_add, cI_sub, cI_mul, cI_neg, cI_lt, cI_le, cI_eq, ne_eq, ifp, ifn, bI_p, bI_n, aZ_0, aZ_1, aZ_b, e_gdt, e_ifT, e_ifF, not_true_eq_false, not_false_eq_true, e_gd, p4]
  unfold f_X3_allTurned J_X3_allTurned_4
  rw [show aLp (fun s : Int32 × Int32 × aD => B_X3_allTurned_4 s.1 s.2.1 s.2.2) (0, 0, D) = _ from L]
  rfl
theorem seen_ok {D : aD} {c : Nat → Int} {r : Nat} (hr : r < 21) (h : ∀ j : Nat, j ≤ r → gI D 73 j = cI (c j) ∧ 0 ≤ c j ∧ c j < 1000000) : Ok (f_X3_isSeenBefore (cI (r : Int)) D) (fun q => q.2 = D ∧ ((q.1 = cI 1 ∧ ∃ j : Nat, j < r ∧ c j = c r) ∨ q.1 = cI 0)) := by
  unfold f_X3_isSeenBefore J_X3_isSeenBefore_2
  refine ok_bindI (ok_lp (K := fun q => (q = .inl D ∧ ∃ j : Nat, j < r ∧ c j = c r) ∨ q = .inr D) (fun i t => t = (cI (i : Int), D)) r (by omega) rfl ?_ |>.mono ?_)
  · rintro i t hi rfl
    show Ok (B_X3_isSeenBefore_2 (cI (r : Int)) (cI (i : Int)) D) _
    unfold B_X3_isSeenBefore_2
    by_cases y : i < r
    · obtain ⟨a1, a2, a3⟩ := h i (by omega)
      obtain ⟨b1, b2, b3⟩ := h r (by omega)
      have e1 : ((i : Int)).toNat = i := by omega
      have e2 : ((r : Int)).toNat = r := by omega
      by_cases z : c i = c r
      · rw [z] at a1
        simp (disch := omega) only [e_bi, e_bind, e_let, e_tr, e_tl, cLm1, cLm2, cL0, cL1, cL2, cL3, cL4, cL5, cL6, cL7, cL8, cL9, cL10, cL11, cL12, cL13, cL14, cL15, cL16, cL17, cL18, cL19, cL20, cL21, cL22, cL23, cL24, cL25, cL29, cL30, cL31, cL32, cL36, cL48, cL50, cL51, cL52, cL64, cL99, cL100, cL700, cL1000, cL9999, cL10000, cI_add, cI_sub, cI_mul, cI_neg, cI_lt, cI_le, cI_eq, ne_eq, ifp, ifn, bI_p, bI_n, aZ_0, aZ_1, aZ_b, e_gdt, e_ifT, e_ifF, not_true_eq_false, not_false_eq_true, e_gd, cI_inT, cI_nat, e1, e2, a1, b1]
        exact ok_someI (Or.inr ⟨_, rfl, Or.inl ⟨rfl, i, y, z⟩⟩)
      · simp (disch := omega) only [e_bi, e_bind, e_let, e_tr, e_tl, cLm1, cLm2, cL0, cL1, cL2, cL3, cL4, cL5, cL6, cL7, cL8, cL9, cL10, cL11, cL12, cL13, cL14, cL15, cL16, cL17, cL18, cL19, cL20, cL21, cL22, cL23, cL24, cL25, cL29, cL30, cL31, cL32, cL36, cL48, cL50, cL51, cL52, cL64, cL99, cL100, cL700, cL1000, cL9999, cL10000, cI_add, cI_sub, cI_mul, cI_neg, cI_lt, cI_le, cI_eq, ne_eq, ifp, ifn, bI_p, bI_n, aZ_0, aZ_1, aZ_b, e_gdt, e_ifT, e_ifF, not_true_eq_false, not_false_eq_true, e_gd, cI_inT, cI_nat, e1, e2, a1, b1]
        exact ok_someI (Or.inl ⟨_, rfl, y, rfl⟩)
    · obtain rfl : i = r := by omega
      rw [if_pos (show cI (i : Int) ≤ cI (i : Int) by rw [cI_le (by omega) (by omega) (by omega) (by omega)]; omega)]
      exact ok_someI (Or.inr ⟨_, rfl, Or.inr rfl⟩)
  · rintro q (⟨rfl, k⟩ | rfl)
    · exact ok_someI ⟨rfl, Or.inl ⟨rfl, k⟩⟩
    · exact ok_someI ⟨rfl, Or.inr rfl⟩
end RES
