/-! town: the reference's lines -/
section MLI
def MH (D : aD) (T : aT) : Prop := (∀ j : Nat, j < 15 → gI D 91 (16 + j) = cI (T 0 j)) ∧ (∀ f s : Nat, f < 7 → (s : Int) < T 0 2 → gI D (92 + f) (6 + s) = cI (T (1 + f) s)) ∧ (∀ r p : Nat, r < 3 → (p : Int) < T 0 4 → gI D (99 + r) (13 + p) = cI (T (8 + r) p)) ∧ (∀ i : Nat, (i : Int) < T 0 5 → gI D 102 (5 + i) = cI (T 11 i)) ∧ (∀ m : Nat, m < 36 → gI D 103 (36 + m) = cI (T 12 m))
def mdr (k j : Nat) : Prop := (k = 91 ∧ 16 ≤ j) ∨ (92 ≤ k ∧ k ≤ 98 ∧ 6 ≤ j) ∨ (99 ≤ k ∧ k ≤ 101 ∧ 13 ≤ j) ∨ (k = 102 ∧ 5 ≤ j) ∨ (k = 103 ∧ 36 ≤ j)
def mF (D D' : aD) : Prop := (∀ k j : Nat, ¬ (k = 88 ∧ 19 ≤ j ∧ j ≤ 26) → ¬ mdr k j → gI D' k j = gI D k j) ∧ gI D' 88 20 = gI D 88 20 ∧ D'.2 = D.2
theorem mF.of {D D' : aD} (h : fM D D') : mF D D' := ⟨fun k j a _ => h.1 k j a, h.2⟩
theorem mF.rf {D : aD} : mF D D := mF.of fM.rf
theorem mF.tr {D D1 D2 : aD} (a : mF D D1) (b : mF D1 D2) : mF D D2 := ⟨fun k j h h' => (b.1 k j h h').trans (a.1 k j h h'), b.2.1.trans a.2.1, b.2.2.trans a.2.2⟩
theorem mF.wr {D D1 : aD} {k j : Nat} {v : Int32} (a : mF D D1) (h : mdr k j) : mF D (pI D1 k j v) := by
  have hk : k ≠ 88 := by unfold mdr at h; omega
  refine ⟨fun k' j' z z' => ?_, (gI_fr (by omega)).trans a.2.1, a.2.2⟩
  rw [gI_fr (by rintro ⟨rfl, rfl⟩; exact z' h)]
  exact a.1 k' j' z z'
theorem MH.fr {D D' : aD} {T : aT} (h : MH D T) (e : ∀ k j : Nat, 91 ≤ k → k ≤ 103 → ¬ (92 ≤ k ∧ k ≤ 98 ∧ T 0 2 ≤ (j : Int) - 6) → ¬ (99 ≤ k ∧ k ≤ 101 ∧ T 0 4 ≤ (j : Int) - 13) → ¬ (k = 102 ∧ T 0 5 ≤ (j : Int) - 5) → gI D' k j = gI D k j) : MH D' T := by
  obtain ⟨h1, h2, h3, h4, h5⟩ := h
  exact ⟨fun j a => (e _ _ (by omega) (by omega) (by omega) (by omega) (by omega)).trans (h1 j a), fun f s a b => (e _ _ (by omega) (by omega) (by omega) (by omega) (by omega)).trans (h2 f s a b), fun r p a b => (e _ _ (by omega) (by omega) (by omega) (by omega) (by omega)).trans (h3 r p a b), fun i a => (e _ _ (by omega) (by omega) (by omega) (by omega) (by omega)).trans (h4 i a), fun m a => (e _ _ (by omega) (by omega) (by omega) (by omega) (by omega)).trans (h5 m a)⟩
theorem MH.fM {D D' : aD} {T : aT} (h : MH D T) (e : fM D D') : MH D' T := h.fr (fun k j _ _ _ _ _ => e.1 k j (by omega))
theorem MH.set0 {D : aD} {T : aT} {j : Nat} {v : Int} (h : MH D T) (hj : j < 15 ∧ j ≠ 2 ∧ j ≠ 4 ∧ j ≠ 5) : MH (pI D 91 (16 + j) (cI v)) (tS T 0 j v) := by
  obtain ⟨h1, h2, h3, h4, h5⟩ := h
  refine ⟨fun i a => ?_, fun f s a b => ?_, fun r p a b => ?_, fun i a => ?_, fun m a => ?_⟩
  · by_cases y : i = j
    · subst y; rw [gI_eq, tS_eq]
    · rw [gI_fr (by omega), tS_ne (by omega)]; exact h1 i a
  · rw [tS_ne (by omega)] at b
    rw [gI_fr (by omega), tS_ne (by omega)]; exact h2 f s a b
  · rw [tS_ne (by omega)] at b
    rw [gI_fr (by omega), tS_ne (by omega)]; exact h3 r p a b
  · rw [tS_ne (by omega)] at a
    rw [gI_fr (by omega), tS_ne (by omega)]; exact h4 i a
  · rw [gI_fr (by omega), tS_ne (by omega)]; exact h5 m a
theorem MH.gate {D : aD} {T : aT} {v : Int} (h : MH D T) (h5' : 0 ≤ T 0 5) (hv : gI D 102 (5 + (T 0 5).toNat) = cI v) : MH (pI D 91 21 (cI (T 0 5 + 1))) (tS (tS T 11 (T 0 5).toNat v) 0 5 (T 0 5 + 1)) := by
  obtain ⟨h1, h2, h3, h4, h5⟩ := h
  refine ⟨fun i a => ?_, fun f s a b => ?_, fun r p a b => ?_, fun i a => ?_, fun m a => ?_⟩
  · by_cases y : i = 5
    · subst y; rw [gI_eq, tS_eq]
    · rw [gI_fr (by omega), tS_ne (by omega), tS_ne (by omega)]; exact h1 i a
  · rw [tS_ne (by omega), tS_ne (by omega)] at b
    rw [gI_fr (by omega), tS_ne (by omega), tS_ne (by omega)]; exact h2 f s a b
  · rw [tS_ne (by omega), tS_ne (by omega)] at b
    rw [gI_fr (by omega), tS_ne (by omega), tS_ne (by omega)]; exact h3 r p a b
  · rw [tS_eq] at a
    rw [gI_fr (by omega), tS_ne (by omega)]
    by_cases y : i = (T 0 5).toNat
    · subst y; rw [tS_eq]; exact hv
    · rw [tS_ne (by omega)]; exact h4 i (by omega)
  · rw [gI_fr (by omega), tS_ne (by omega), tS_ne (by omega)]; exact h5 m a
theorem MH.mask {D : aD} {T : aT} {v : Int} {n : Nat} (h : MH D T) : MH (pI D 103 (36 + n) (cI v)) (tS T 12 n v) := by
  obtain ⟨h1, h2, h3, h4, h5⟩ := h
  refine ⟨fun i a => ?_, fun f s a b => ?_, fun r p a b => ?_, fun i a => ?_, fun m a => ?_⟩
  · rw [gI_fr (by omega), tS_ne (by omega)]; exact h1 i a
  · rw [tS_ne (by omega)] at b
    rw [gI_fr (by omega), tS_ne (by omega)]; exact h2 f s a b
  · rw [tS_ne (by omega)] at b
    rw [gI_fr (by omega), tS_ne (by omega)]; exact h3 r p a b
  · rw [tS_ne (by omega)] at a
    rw [gI_fr (by omega), tS_ne (by omega)]; exact h4 i a
  · by_cases y : m = n
    · subst y; rw [gI_eq, tS_eq]
    · rw [gI_fr (by omega), tS_ne (by omega)]; exact h5 m a
theorem MH.plant {D : aD} {T : aT} {a c o : Int} (h : MH D T) (h4' : 0 ≤ T 0 4) (v1 : gI D 99 (13 + (T 0 4).toNat) = cI a) (v2 : gI D 100 (13 + (T 0 4).toNat) = cI c) (v3 : gI D 101 (13 + (T 0 4).toNat) = cI o) : MH (pI D 91 20 (cI (T 0 4 + 1))) (plW T a c o) := by
  obtain ⟨h1, h2, h3, h4, h5⟩ := h
  have e0 : ∀ j : Nat, j ≠ 4 → plW T a c o 0 j = T 0 j := fun j hj => by unfold plW; rw [tS_ne (by omega), tS_ne (by omega), tS_ne (by omega), tS_ne (by omega)]
  have e4 : plW T a c o 0 4 = T 0 4 + 1 := by unfold plW; rw [tS_eq]
  have er : ∀ k : Nat, k ≠ 0 → k ≠ 8 → k ≠ 9 → k ≠ 10 → plW T a c o k = T k := fun k k0 k1 k2 k3 => by unfold plW; rw [tS_r k0, tS_r k3, tS_r k2, tS_r k1]
  have es : ∀ k p : Nat, p ≠ (T 0 4).toNat → k ≠ 0 → plW T a c o k p = T k p := fun k p hp k0 => by unfold plW; rw [tS_ne (by omega), tS_ne (by omega), tS_ne (by omega), tS_ne (by omega)]
  refine ⟨fun i x => ?_, fun f s x y => ?_, fun r p x y => ?_, fun i x => ?_, fun m x => ?_⟩
  · by_cases y : i = 4
    · subst y; rw [gI_eq, e4]
    · rw [gI_fr (by omega), e0 i y]; exact h1 i x
  · rw [e0 2 (by omega)] at y
    rw [gI_fr (by omega), er _ (by omega) (by omega) (by omega) (by omega)]; exact h2 f s x y
  · rw [e4] at y
    rw [gI_fr (by omega)]
    by_cases z : p = (T 0 4).toNat
    · subst z
      rcases j3 x with rfl | rfl | rfl
      · rw [show plW T a c o (8 + 0) (T 0 4).toNat = a by unfold plW; rw [tS_ne (by omega), tS_ne (by omega), tS_ne (by omega), tS_eq]]; exact v1
      · rw [show plW T a c o (8 + 1) (T 0 4).toNat = c by unfold plW; rw [tS_ne (by omega), tS_ne (by omega), tS_eq]]; exact v2
      · rw [show plW T a c o (8 + 2) (T 0 4).toNat = o by unfold plW; rw [tS_ne (by omega), tS_eq]]; exact v3
    · rw [es _ p z (by omega)]; exact h3 r p x (by omega)
  · rw [e0 5 (by omega)] at x
    rw [gI_fr (by omega), er 11 (by omega) (by omega) (by omega) (by omega)]; exact h4 i x
  · rw [gI_fr (by omega), er 12 (by omega) (by omega) (by omega) (by omega)]; exact h5 m x
theorem MH.sort {D : aD} {T : aT} {v : Nat → Int} (h : MH D T) (h2' : 0 ≤ T 0 2) (hv : ∀ f : Nat, f < 7 → gI D (92 + f) (6 + (T 0 2).toNat) = cI (v (1 + f))) : MH (pI D 91 18 (cI (T 0 2 + 1))) (srT T v) := by
  obtain ⟨h1, h2, h3, h4, h5⟩ := h
  have e0 : ∀ j : Nat, j ≠ 2 → srT T v 0 j = T 0 j := fun j hj => sr_o (by omega) (by omega)
  have e2 : srT T v 0 2 = T 0 2 + 1 := by unfold srT; rw [if_pos ⟨rfl, rfl⟩]
  refine ⟨fun i x => ?_, fun f s x y => ?_, fun r p x y => ?_, fun i x => ?_, fun m x => ?_⟩
  · by_cases y : i = 2
    · subst y; rw [gI_eq, e2]
    · rw [gI_fr (by omega), e0 i y]; exact h1 i x
  · rw [e2] at y
    rw [gI_fr (by omega)]
    by_cases z : s = (T 0 2).toNat
    · subst z; rw [sr_v (by omega) (by omega)]; exact hv f x
    · rw [sr_o (by omega) (by omega)]; exact h2 f s x (by omega)
  · rw [e0 4 (by omega)] at y
    rw [gI_fr (by omega), sr_r (k := 8 + r) (by omega)]; exact h3 r p x y
  · rw [e0 5 (by omega)] at x
    rw [gI_fr (by omega), sr_r (k := 11) (by omega)]; exact h4 i x
  · rw [gI_fr (by omega), sr_r (k := 12) (by omega)]; exact h5 m x
theorem nh_bad {B : Nat → Int} {N : Nat} {a b : Int} {x : aX} (h : (nhX B N a b x).2.1 ≠ 0) : (nhX B N a b x).1 = a := by
  unfold nhX at h ⊢
  by_cases z : x.1 = 0
  · rw [if_pos z] at h ⊢
    by_cases k : kd B N x.2.2.1 = 2
    · rw [if_pos k] at h ⊢
      by_cases c : x.2.2.2 - x.2.2.1 ≤ 4 ∧ a ≤ vlN B x.2.2.1 (x.2.2.2 - x.2.2.1) ∧ vlN B x.2.2.1 (x.2.2.2 - x.2.2.1) ≤ b
      · rw [if_pos c] at h
        exact absurd z h
      · rw [if_neg c]
    · rw [if_neg k]
  · rw [if_neg z]
theorem vz_ok {r : Int × aX} (h : r.2.1 = 0) : vz r = r.1 := if_pos h
theorem vz_0 {B : Nat → Int} {N : Nat} {b : Int} {x : aX} : vz (nhX B N 0 b x) = (nhX B N 0 b x).1 := by
  unfold vz
  by_cases z : (nhX B N 0 b x).2.1 = 0
  · rw [if_pos z]
  · rw [if_neg z, nh_bad z]
theorem vz_k {B : Nat → Int} {N : Nat} {c : Int} {x : aX} : vz (khX B N c x) = (khX B N c x).1 := by
  unfold vz
  by_cases z : (khX B N c x).2.1 = 0
  · rw [if_pos z]
  · rw [if_neg z]
    unfold khX at z ⊢
    by_cases z1 : x.1 = 0
    · rw [if_pos z1] at z ⊢
      by_cases z2 : (nhX B N 0 9999 x).2.1 = 0
      · rw [if_pos z2] at z ⊢
        by_cases z3 : (nhX B N 0 9999 x).1 < c
        · rw [if_pos z3] at z
          exact absurd z2 z
        · rw [if_neg z3]
      · rw [if_neg z2]
    · rw [if_neg z1]
theorem vz_s {B : Nat → Int} {N : Nat} {m : Int} {x : aX} : vz (sgX B N m x) = (sgX B N m x).1 := by
  unfold sgX
  by_cases c : x.1 = 0 ∧ kd B N x.2.2.1 = 4
  · rw [if_pos c]
    have := vz_0 (B := B) (N := N) (b := m) (x := tkX B N x)
    unfold vz at this ⊢
    dsimp only
    split
    · rfl
    · rename_i z
      rw [nh_bad z]
      rfl
  · rw [if_neg c]
    exact vz_0
theorem vz_r {B : Nat → Int} {N : Nat} {a b : Int} {x : aX} (h0 : 0 ≤ a) (h : a ≤ b) : 0 ≤ vz (nhX B N a b x) ∧ vz (nhX B N a b x) ≤ b := by
  have := nh_r (B := B) (N := N) (x := x) h
  unfold vz
  split <;> omega
def mOK (D0 : aD) (B : Nat → Int) (N : Nat) (r : aX × aT) (D : aD) : Prop := ∃ z : aX, scX B N z = r.1 ∧ MC D B N z ∧ mF D0 D ∧ (r.1.1 = 0 → MH D r.2)
theorem mOK.fl {D0 D : aD} {B : Nat → Int} {N : Nat} {x : aX} {T : aT} {c : Int} (hc : c ≠ 0) (h : MC D B N (flX c x)) (f : mF D0 D) : mOK D0 B N (flX c x, T) D := ⟨flX c x, sc_f (fl_1 hc), h, f, fun z => absurd z (fl_1 hc)⟩
theorem mgarden_ok {D : aD} {B : Nat → Int} {N : Nat} {x : aX} {T : aT} (h : MC D B N x) (h0 : x.1 = 0) (hM : MH D T) (hT : TOKp T) : Ok (aBi (f_X12_begin 3 5 D) (fun y_32 D_33 => if y_32 = 0 then (some D_33) else (aGd (aIn 19 32) (aGd (aIn 19 32) (aLet (pI D_33 91 (19 : Int32).toNatClampNeg ((gI D_33 91 (19 : Int32).toNatClampNeg) + 1)) (fun D_36 => some D_36)))))) (mOK D B N (gdX B N x T)) := by
  have hq := hT.1
  have c3 := hM.1 3 (by omega)
  refine ok_biI ((mbegin_ok 3 5 (T 0 3) h h0 rfl rfl (by omega) (by omega) c3 (by omega) (by omega)).mono fun r k => ?_)
  obtain ⟨y, D1⟩ := r
  obtain ⟨k1, k2, k3⟩ := k
  have k3' : fM D D1 := k3
  unfold gdX
  dsimp only
  by_cases z : T 0 3 < 5
  · obtain ⟨e, k4⟩ := k1 z
    obtain rfl : y = cI 1 := e
    have k4' : MC D1 B N (tkX B N x) := k4
    have hM1 := hM.fM k3'
    rw [if_neg (show ¬ (cI 1 = 0) by decide), if_pos z, e_gd (by decide), e_gd (by decide), e_let, show (19 : Int32).toNatClampNeg = 16 + 3 from rfl, hM1.1 3 (by omega), cL1, cI_add]
    exact ok_someI ⟨tkX B N x, rfl, k4'.wr (by omega) (by omega), (mF.of k3').wr (Or.inl ⟨rfl, by omega⟩), fun _ => hM1.set0 (by omega)⟩
  · obtain ⟨e, k4⟩ := k2 z
    obtain rfl : y = cI 0 := e
    rw [if_pos (show cI 0 = 0 from rfl), if_neg z]
    exact ok_someI (mOK.fl (by omega) k4 (mF.of k3'))
theorem mgate_ok {D : aD} {B : Nat → Int} {N : Nat} {x : aX} {T : aT} (h : MC D B N x) (h0 : x.1 = 0) (hM : MH D T) (hT : TOKp T) : Ok (aBi (f_X12_begin 5 5 D) (fun y_16 D_17 => if y_16 ≠ 0 then (aGd (aIn 16 32) (aBi (f_X12_readNumber 0 ((gI D_17 91 (16 : Int32).toNatClampNeg) - 1) D_17) (fun y_19 D_20 => aGd (aIn 21 32) (aGd (aIn 16 32) (aGd (aIn 17 32) (aBi (f_X12_readNumber 0 ((gI D_20 91 (17 : Int32).toNatClampNeg) - 1) D_20) (fun y_24 D_25 => aGd (aIn (5 + (gI D_20 91 (21 : Int32).toNatClampNeg)) 10) (aLet (pI D_25 102 (5 + (gI D_20 91 (21 : Int32).toNatClampNeg)).toNatClampNeg (((gI D_20 91 (16 : Int32).toNatClampNeg) * y_24) + y_19)) (fun D_27 => aGd (aIn 21 32) (aGd (aIn 21 32) (aLet (pI D_27 91 (21 : Int32).toNatClampNeg ((gI D_27 91 (21 : Int32).toNatClampNeg) + 1)) (fun D_30 => some D_30)))))))))))) else (some D_17))) (mOK D B N (gtX B N x T)) := by
  have hq := hT.1
  have c5 := hM.1 5 (by omega)
  refine ok_biI ((mbegin_ok 5 5 (T 0 5) h h0 rfl rfl (by omega) (by omega) c5 (by omega) (by omega)).mono fun r k => ?_)
  obtain ⟨y, D1⟩ := r
  obtain ⟨k1, k2, k3⟩ := k
  have k3' : fM D D1 := k3
  unfold gtX
  dsimp only
  by_cases z : T 0 5 < 5
  · obtain ⟨e, k4⟩ := k1 z
    obtain rfl : y = cI 1 := e
    have k4' : MC D1 B N (tkX B N x) := k4
    have hM1 := hM.fM k3'
    rw [if_pos (show cI 1 ≠ 0 by decide), if_pos z, e_gd (by decide), show gI D1 91 (16 : Int32).toNatClampNeg = cI (T 0 0) from hM1.1 0 (by omega), cL1, cI_sub]
    refine ok_biI ((mread_ok 0 (T 0 0 - 1) k4' rfl rfl (by omega) (by omega) (by omega) (by omega)).mono fun r k => ?_)
    obtain ⟨y, D2⟩ := r
    obtain ⟨e, k5, k6⟩ := k
    obtain rfl : y = cI (vz (gtA B N x T)) := e
    have k5' : MC D2 B N (tkX B N (gtA B N x T).2) := k5
    have k6' : fM D1 D2 := k6
    have hM2 := hM1.fM k6'
    have q21 : gI D2 91 (21 : Int32).toNatClampNeg = cI (T 0 5) := hM2.1 5 (by omega)
    have q16 : gI D2 91 (16 : Int32).toNatClampNeg = cI (T 0 0) := hM2.1 0 (by omega)
    dsimp only
    rw [e_gd (by decide), e_gd (by decide), e_gd (by decide), show gI D2 91 (17 : Int32).toNatClampNeg = cI (T 0 1) from hM2.1 1 (by omega), cI_sub]
    refine ok_biI ((mread_ok 0 (T 0 1 - 1) k5' rfl rfl (by omega) (by omega) (by omega) (by omega)).mono fun r k => ?_)
    obtain ⟨y, D3⟩ := r
    obtain ⟨e, k7, k8⟩ := k
    obtain rfl : y = cI (vz (gtB B N x T)) := e
    have k7' : MC D3 B N (tkX B N (gtB B N x T).2) := k7
    have k8' : fM D2 D3 := k8
    have hM3 := hM2.fM k8'
    have e3 : ((5 : Int) + T 0 5).toNat = 5 + (T 0 5).toNat := by omega
    dsimp only
    rw [q21, q16, cL5, cI_add, e_gd (cI_inT (by omega) (by omega) (by omega)), e_let, cI_nat (by omega) (by omega), e3, e_gd (by decide), e_gd (by decide), e_let, show (21 : Int32).toNatClampNeg = 21 from rfl, gI_fr (by omega), show gI D3 91 21 = cI (T 0 5) from hM3.1 5 (by omega), cI_add, cI_mul, cI_add]
    have va : vz (gtA B N x T) = (gtA B N x T).1 := vz_0
    have vb : vz (gtB B N x T) = (gtB B N x T).1 := vz_0
    have ev : T 0 0 * vz (gtB B N x T) + vz (gtA B N x T) = gtV B N x T := by rw [va, vb, Int.mul_comm]; rfl
    rw [ev]
    refine ok_someI ⟨tkX B N (gtB B N x T).2, rfl, (k7'.wr (by omega) (by omega)).wr (by omega) (by omega), ((mF.of ((k3'.tr k6').tr k8')).wr (Or.inr (Or.inr (Or.inr (Or.inl ⟨rfl, by omega⟩))))).wr (Or.inl ⟨rfl, by omega⟩), fun _ => ?_⟩
    exact MH.gate (hM3.fr (fun k j _ _ _ _ a => gI_fr (by omega))) (by omega) gI_eq
  · obtain ⟨e, k4⟩ := k2 z
    obtain rfl : y = cI 0 := e
    rw [if_neg (show ¬ (cI 0 ≠ 0) from fun y => y rfl), if_neg z]
    exact ok_someI (mOK.fl (by omega) k4 (mF.of k3'))
theorem mhas_eq {D : aD} {T : aT} {c : Nat} (h4 : 0 ≤ T 0 4) (hP : T 0 4 ≤ 12) (hM : MH D T) (hT : TOKp T) (hc : c < 64) : f_X12_hasPlant 13 (cI (T 0 4)) (cI (c : Int)) D = some (cI (if takenN T c then 1 else 0), D) := by
  refine ok_eq ?_
  have hq := hT.1
  unfold f_X12_hasPlant J_X12_hasPlant_3
  refine ok_bindI (ok_lp (fun i t => t = (cI ((13 + i : Nat) : Int), D) ∧ ∀ p : Nat, p < i → T 9 p ≠ (c : Int)) (T 0 4).toNat (by omega) ⟨rfl, fun p h => absurd h (by omega)⟩ ?_)
  rintro i t hi ⟨rfl, h1⟩
  show Ok (B_X12_hasPlant_3 13 (cI (T 0 4)) (cI (c : Int)) (cI ((13 + i : Nat) : Int)) D) _
  have e : (((13 + i : Nat) : Int)).toNat = 13 + i := by omega
  unfold B_X12_hasPlant_3
  rw [show (13 : Int32) + cI (T 0 4) = cI (13 + T 0 4) from cI_add 13 (T 0 4)]
  by_cases d : (i : Int) < T 0 4
  · have r := hT.2.2.2.1 i d
    have p2 : gI D 100 (13 + i) = cI (T 9 i) := hM.2.2.1 1 i (by omega) d
    rw [if_neg (show ¬ (cI (13 + T 0 4) ≤ cI ((13 + i : Nat) : Int)) by rw [cI_le (by omega) (by omega) (by omega) (by omega)]; omega), e_gd (cI_inT (by omega) (by omega) (by omega)), cI_nat (by omega) (by omega), e, p2]
    by_cases y : T 9 i = (c : Int)
    · have tk : takenN T c = true := taken_iff.mpr ⟨i, by omega, y⟩
      rw [if_neg (show ¬ (cI (T 9 i) ≠ cI (c : Int)) by rw [y]; exact fun w => w rfl)]
      refine ok_someI (Or.inr ⟨_, rfl, ?_⟩)
      rw [tk]
      exact ok_someI rfl
    · rw [if_pos (show cI (T 9 i) ≠ cI (c : Int) by rw [cI_ne (by omega) (by omega) (by omega) (by omega)]; exact y), e_let]
      refine ok_someI (Or.inl ⟨_, rfl, by omega, by rw [cL1, cI_add]; rfl, fun p hp => ?_⟩)
      by_cases z : p = i
      · subst z; exact y
      · exact h1 p (by omega)
  · rw [if_pos (show cI (13 + T 0 4) ≤ cI ((13 + i : Nat) : Int) by rw [cI_le (by omega) (by omega) (by omega) (by omega)]; omega)]
    have tk : takenN T c = false := by
      refine Bool.eq_false_iff.mpr (fun h => ?_)
      obtain ⟨p, h2, h3⟩ := taken_iff.mp h
      exact h1 p (by omega) h3
    refine ok_someI (Or.inr ⟨_, rfl, ?_⟩)
    rw [tk]
    exact ok_someI rfl
end MLI
