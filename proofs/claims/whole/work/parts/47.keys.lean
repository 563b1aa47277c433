/-! groups: the class's keys and its greatest group -/
section KEY
def cJ (a : Int) : Int64 := Int64.ofInt a
theorem cJ_i {a b : Int} (h1 : 0 ≤ a) (h2 : a < 9223372036854775808) (h3 : 0 ≤ b) (h4 : b < 9223372036854775808) (h : cJ a = cJ b) : a = b := by
  have e := congrArg Int64.toInt h
  unfold cJ at e
  rw [Int64.toInt_ofInt_of_le (by omega) (by omega), Int64.toInt_ofInt_of_le (by omega) (by omega)] at e
  exact e
theorem bvJ (x : Int64) {a : Nat} (h : x.toBitVec.toNat = a) : x = cJ (a : Int) := by
  refine Int64.toBitVec_inj.mp ?_
  show _ = BitVec.ofInt 64 (a : Int)
  rw [BitVec.ofInt_natCast, ← h, BitVec.ofNat_toNat, BitVec.setWidth_eq]
theorem tnJ {a : Nat} (h : a < 9223372036854775808) : (cJ (a : Int)).toBitVec.toNat = a := by
  show (BitVec.ofInt 64 (a : Int)).toNat = a
  rw [BitVec.ofInt_natCast, BitVec.toNat_ofNat]
  exact Nat.mod_eq_of_lt (by omega)
theorem cIJ {b : Int} (h3 : 0 ≤ b) (h4 : b < 2147483648) : (cI b).toInt64 = cJ b := by
  rw [← Int64.toInt_inj, Int32.toInt_toInt64, cI_toInt (by omega) h4]
  unfold cJ
  rw [Int64.toInt_ofInt_of_le (by omega) (by omega)]
theorem shl13 {a b : Int} (h1 : 0 ≤ a) (h2 : a < 549755813888) (h3 : 0 ≤ b) (h4 : b < 8192) : (cJ a <<< ((cI 13).toInt64 &&& 63)) ||| (cI b).toInt64 = cJ (a * 8192 + b) := by
  rw [cIJ h3 (by omega)]
  obtain ⟨a, rfl⟩ : ∃ n : Nat, a = (n : Int) := ⟨a.toNat, by omega⟩
  obtain ⟨b, rfl⟩ : ∃ n : Nat, b = (n : Int) := ⟨b.toNat, by omega⟩
  have e : (a : Int) * 8192 + b = ((a * 8192 + b : Nat) : Int) := by omega
  rw [e]
  refine bvJ _ ?_
  show (((cJ (a : Int)).toBitVec <<< (13 : Nat)) ||| (cJ (b : Int)).toBitVec).toNat = _
  rw [BitVec.toNat_or, BitVec.toNat_shiftLeft, tnJ (by omega), tnJ (by omega), Nat.shiftLeft_eq, Nat.mod_eq_of_lt (by omega)]
  rw [← Nat.shiftLeft_eq, ← Nat.shiftLeft_add_eq_or_of_lt (show b < 2 ^ 13 by omega), Nat.shiftLeft_eq]
def hoN (V : Nat → Int) (f : Nat) : Nat → Int
  | 0 => 0
  | i + 1 => hoN V f i * 8192 + V (f + i)
theorem p8 {n : Nat} (h : n ≤ 3) : (8192 : Int) ^ n ≤ 549755813888 := by
  have e : n = 0 ∨ n = 1 ∨ n = 2 ∨ n = 3 := by omega
  rcases e with rfl | rfl | rfl | rfl <;> decide
theorem ho_b {V : Nat → Int} {f : Nat} : ∀ i : Nat, i ≤ 3 → (∀ j : Nat, j < i → 0 ≤ V (f + j) ∧ V (f + j) < 8192) → 0 ≤ hoN V f i ∧ hoN V f i < 8192 ^ i
  | 0, _, _ => by simp [hoN]
  | i + 1, hi, h => by
    have a := ho_b i (by omega) (fun j hj => h j (by omega))
    have b := h i (by omega)
    rw [hoN, Int.pow_succ]
    omega
theorem ho_i {V V' : Nat → Int} {f : Nat} : ∀ i : Nat, (∀ j : Nat, j < i → 0 ≤ V (f + j) ∧ V (f + j) < 8192) → (∀ j : Nat, j < i → 0 ≤ V' (f + j) ∧ V' (f + j) < 8192) → hoN V f i = hoN V' f i → ∀ j : Nat, j < i → V (f + j) = V' (f + j)
  | 0, _, _, _ => fun j hj => absurd hj (by omega)
  | i + 1, h, h', e => by
    have b := h i (by omega)
    have b' := h' i (by omega)
    rw [hoN, hoN] at e
    have c := ho_i i (fun j hj => h j (by omega)) (fun j hj => h' j (by omega)) (by omega)
    intro j hj
    by_cases z : j = i
    · subst z; omega
    · exact c j (by omega)
theorem ho_cg {V V' : Nat → Int} {f : Nat} : ∀ i : Nat, (∀ j : Nat, j < i → V (f + j) = V' (f + j)) → hoN V f i = hoN V' f i
  | 0, _ => rfl
  | i + 1, h => by rw [hoN, hoN, ho_cg i (fun j hj => h j (by omega)), h i (by omega)]
/-- how many of three sorts from f there are -/
def nsN (T : aT) (f : Nat) : Nat := if (T 0 2).toNat - f < 3 then (T 0 2).toNat - f else 3
def koN (T : aT) (V : Nat → Int) : Int64 × Int64 := (cJ (hoN V 0 (nsN T 0)), cJ (hoN V 3 (nsN T 3)))
theorem ko_iff {T : aT} {V V' : Nat → Int} (hS : T 0 2 ≤ 6) (h : ∀ j : Nat, j < 6 → 0 ≤ V j ∧ V j < 8192) (h' : ∀ j : Nat, j < 6 → 0 ≤ V' j ∧ V' j < 8192) : koN T V = koN T V' ↔ ∀ s : Nat, s < (T 0 2).toNat → V s = V' s := by
  have n0 : nsN T 0 ≤ 3 := by unfold nsN; split <;> omega
  have n3 : nsN T 3 ≤ 3 := by unfold nsN; split <;> omega
  constructor
  · intro e
    unfold koN at e
    obtain ⟨e0, e3⟩ := Prod.mk.inj e
    have p := p8 n0
    have p3 := p8 n3
    have a := ho_b (V := V) (f := 0) (nsN T 0) n0 (fun j hj => h _ (by omega))
    have a' := ho_b (V := V') (f := 0) (nsN T 0) n0 (fun j hj => h' _ (by omega))
    have b := ho_b (V := V) (f := 3) (nsN T 3) n3 (fun j hj => h _ (by omega))
    have b' := ho_b (V := V') (f := 3) (nsN T 3) n3 (fun j hj => h' _ (by omega))
    have c := ho_i _ (fun j hj => h _ (by omega)) (fun j hj => h' _ (by omega)) (cJ_i a.1 (by omega) a'.1 (by omega) e0)
    have c3 := ho_i _ (fun j hj => h _ (by omega)) (fun j hj => h' _ (by omega)) (cJ_i b.1 (by omega) b'.1 (by omega) e3)
    intro s hs
    by_cases z : s < 3
    · have := c s (by unfold nsN; split <;> omega)
      rwa [Nat.zero_add] at this
    · have := c3 (s - 3) (by unfold nsN; split <;> omega)
      rwa [show 3 + (s - 3) = s by omega] at this
  · intro e
    unfold koN
    rw [ho_cg (V := V) (V' := V') (f := 0) _ (fun j hj => e _ (by unfold nsN at hj; split at hj <;> omega)), ho_cg (V := V) (V' := V') (f := 3) _ (fun j hj => e _ (by unfold nsN at hj; split at hj <;> omega))]
theorem sm13_eq {D : aD} {T : aT} {R O : Nat → Int} {f : Nat} (hp : TOKp T) (hC : CP D 2 T) (hN : ∀ j : Nat, j < 6 → gI D 58 j = cI (R j)) (hB : bB R O) (hf : f = 0 ∨ f = 3) :
    f_X10_smellsFrom (cI (f : Int)) D = some (cJ (hoN (fun s => ntN T (mkN T R s)) f (nsN T f)), D) := by
  have hq := hp.1
  obtain ⟨-, -, q3, -⟩ := CP.two hC
  have S := q3 2 (by omega) (by omega)
  have n3 : nsN T f ≤ 3 := by unfold nsN; split <;> omega
  have nb : ∀ s : Nat, s < 6 → 0 ≤ ntN T (mkN T R s) ∧ ntN T (mkN T R s) < 8192 := fun s hs => by
    have mk := mk_b hp.2.2.2.2.2 (by omega) hB hs
    have r := hB.1 s hs
    have nt := nt_b (T := T) mk.1 (show mkN T R s ≤ 4680 by omega)
    omega
  have L : aLp (fun s : Int64 × Int32 × aD => B_X10_smellsFrom_5 (cI (f : Int)) s.1 s.2.1 s.2.2) (cJ 0, cI (f : Int), D) = some (cJ (hoN (fun s => ntN T (mkN T R s)) f (nsN T f)), D) := by
    have h := lp_cnt (body := fun s : Int64 × Int32 × aD => B_X10_smellsFrom_5 (cI (f : Int)) s.1 s.2.1 s.2.2) (nsN T f) (by omega) (fun i => (cJ (hoN (fun s => ntN T (mkN T R s)) f i), cI ((f : Int) + i), D)) (cJ (hoN (fun s => ntN T (mkN T R s)) f (nsN T f)), D) ?_ ?_
    · simpa [hoN] using h
    · intro i hi
      have u : i < 3 ∧ ((f + i : Nat) : Int) < T 0 2 := by unfold nsN at hi; split at hi <;> omega
      have em := masked_r (s := f + i) hp hC hN hB (by omega)
      have mk := mk_b (s := f + i) hp.2.2.2.2.2 (by omega) hB (by omega)
      have r := hB.1 (f + i) (by omega)
      have nbi := nb (f + i) (by omega)
      have p := p8 (n := i) (by omega)
      have b := ho_b (V := fun s => ntN T (mkN T R s)) (f := f) i (by omega) (fun j hj => nb _ (by omega))
      have ec : ((f + i : Nat) : Int) = (f : Int) + i := by omega
      rw [ec] at em
      show B_X10_smellsFrom_5 (cI (f : Int)) (cJ (hoN (fun s => ntN T (mkN T R s)) f i)) (cI ((f : Int) + i)) D = _
      unfold B_X10_smellsFrom_5
      simp (disch := omega) only [e_bi, e_bind, e_let, e_tr, e_tl, cLm1, cLm2, cL0, cL1, cL2, cL3, cL4, cL5, cL6, cL7, cL8, cL9, cL10, cL11, cL12, cL13, cL14, cL15, cL16, cL17, cL18, cL19, cL20, cL21, cL22, cL23, cL24, cL25, cL29, cL30, cL31, cL32, cL36, cL48, cL50, cL51, cL52, cL64, cL99, cL100, cL700, cL1000, cL9999, cL10000, cI_add, cI_sub, cI_mul, cI_neg, cI_lt, cI_le, cI_eq, ne_eq, ifp, ifn, bI_p, bI_n, aZ_0, aZ_1, aZ_b, e_gdt, e_ifT, e_ifF, not_true_eq_false, not_false_eq_true, e_gd, S, em, noticed_eq hp hC, shl13]
      rw [hoN, show ((f : Int) + ((i + 1 : Nat) : Int)) = (f : Int) + i + 1 by omega]
    · show B_X10_smellsFrom_5 (cI (f : Int)) (cJ (hoN (fun s => ntN T (mkN T R s)) f (nsN T f))) (cI ((f : Int) + (nsN T f : Nat))) D = _
      unfold B_X10_smellsFrom_5
      by_cases z : (f : Int) + 3 ≤ (f : Int) + (nsN T f : Nat)
      · simp (disch := omega) only [e_bi, e_bind, e_let, e_tr, e_tl, cLm1, cLm2, cL0, cL1, cL2, cL3, cL4, cL5, cL6, cL7, cL8, cL9, cL10, cL11, cL12, cL13, cL14, cL15, cL16, cL17, cL18, cL19, cL20, cL21, cL22, cL23, cL24, cL25, cL29, cL30, cL31, cL32, cL36, cL48, cL50, cL51, cL52, cL64, cL99, cL100, cL700, cL1000, cL9999, cL10000, cI_add, cI_sub, cI_mul, cI_neg, cI_lt, cI_le, cI_eq, ne_eq, ifp, ifn, bI_p, bI_n, aZ_0, aZ_1, aZ_b, e_gdt, e_ifT, e_ifF, not_true_eq_false, not_false_eq_true, e_gd]
      · have u : T 0 2 ≤ (f : Int) + (nsN T f : Nat) := by unfold nsN at z ⊢; split at z <;> split <;> omega
        simp (disch := omega) only [e_bi, e_bind, e_let, e_tr, e_tl, cLm1, cLm2, cL0, cL1, cL2, cL3, cL4, cL5, cL6, cL7, cL8, cL9, cL10, cL11, cL12, cL13, cL14, cL15, cL16, cL17, cL18, cL19, cL20, cL21, cL22, cL23, cL24, cL25, cL29, cL30, cL31, cL32, cL36, cL48, cL50, cL51, cL52, cL64, cL99, cL100, cL700, cL1000, cL9999, cL10000, cI_add, cI_sub, cI_mul, cI_neg, cI_lt, cI_le, cI_eq, ne_eq, ifp, ifn, bI_p, bI_n, aZ_0, aZ_1, aZ_b, e_gdt, e_ifT, e_ifF, not_true_eq_false, not_false_eq_true, e_gd, S]
  unfold f_X10_smellsFrom J_X10_smellsFrom_5
  rw [show (0 : Int64) = cJ 0 from rfl, L]
  rfl
end KEY
