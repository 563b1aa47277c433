/-! town: what the lines keep -/
section SPE
def moX (N : Nat) (x y : aX) : Prop := x.2.2.2 ≤ N → x.2.2.2 ≤ y.2.2.2 ∧ y.2.2.2 ≤ N
theorem moX.tr {N : Nat} {x y z : aX} (a : moX N x y) (b : moX N y z) : moX N x z := fun h => ⟨Nat.le_trans (a h).1 (b (a h).2).1, (b (a h).2).2⟩
theorem moX.eq {N : Nat} {x y : aX} (e : y.2.2 = x.2.2) : moX N x y := fun h => by rw [e]; exact ⟨Nat.le_refl _, h⟩
theorem mo_tk {B : Nat → Int} {N : Nat} {x : aX} : moX N x (tkX B N x) := fun h => tk_e h
theorem mo_fl {N : Nat} {x : aX} {c : Int} : moX N x (flX c x) := moX.eq fl_e
theorem sc_e {B : Nat → Int} {N : Nat} {x : aX} : (scX B N x).2.2 = x.2.2 := by
  unfold scX
  split
  · rfl
  · exact fl_e
theorem mo_st {B : Nat → Int} {N : Nat} {x : aX} : moX N x (scX B N (tkX B N x)) := mo_tk.tr (moX.eq sc_e)
theorem mo_nm {B : Nat → Int} {N : Nat} {a b : Int} {x : aX} : moX N x (nmX B N a b x).2 := mo_tk.tr (moX.eq nh_e)
theorem mo_kh {B : Nat → Int} {N : Nat} {c : Int} {x : aX} : moX N x (khX B N c (tkX B N x)).2 := mo_tk.tr (moX.eq kh_e)
theorem mo_sg {B : Nat → Int} {N : Nat} {m : Int} {x : aX} : moX N x (sgX B N m (tkX B N x)).2 := by
  refine (mo_tk (B := B)).tr ?_
  unfold sgX
  split
  · exact mo_nm (a := 0) (b := m)
  · exact moX.eq nh_e
theorem mo_ow {B : Nat → Int} {N : Nat} {g : Int} {x : aX} : moX N x (owX B N g (tkX B N x)).2 := by
  refine (mo_tk (B := B)).tr ?_
  unfold owX
  split
  · exact mo_kh.tr mo_tk
  · exact moX.eq rfl
theorem mo_on {N q b : Nat} {x : aX} : moX N x (onX q b x) := by
  unfold onX
  split
  · exact moX.eq rfl
  · exact mo_fl
theorem mo_gt {B : Nat → Int} {N : Nat} {x : aX} {T : aT} : moX N x (gtB B N x T).2 := (mo_nm (a := 0) (b := T 0 0 - 1)).tr mo_nm
theorem mo_wd {B : Nat → Int} {N : Nat} {x : aX} {T : aT} : ∀ n : Nat, moX N x (wdX B N x T n).1
  | 0 => moX.eq rfl
  | n + 1 => (mo_wd n).tr (mo_nm (a := 0) (b := 99))
theorem mo_ln {B : Nat → Int} {N q : Nat} {x : aX} {T : aT} (w : Nat) : moX N x (lnX B N w q x T).2.1 := by
  unfold lnX
  split
  · refine moX.tr (y := if q = 0 then x else flX 4 x) ?_ ?_
    · split
      · exact moX.eq rfl
      · exact mo_fl
    · exact (mo_nm (a := 2) (b := 8)).tr ((mo_nm (a := 2) (b := 8)).tr mo_st)
  · show moX N x (soX B N 0 x T).1
    unfold soX
    split
    · exact (mo_nm (a := 1) (b := 99)).tr ((mo_nm (a := 0) (b := 51)).tr ((mo_nm (a := (s2X B N x).1) (b := 51)).tr ((mo_nm (a := 0) (b := 23)).tr ((mo_nm (a := (s4X B N x).1) (b := 23)).tr ((mo_sg (m := 9)).tr mo_st)))))
    · exact mo_fl
  · show moX N x (soX B N 1 x T).1
    unfold soX
    split
    · exact (mo_nm (a := 1) (b := 99)).tr ((mo_nm (a := 0) (b := 51)).tr ((mo_nm (a := (s2X B N x).1) (b := 51)).tr ((mo_nm (a := 0) (b := 23)).tr ((mo_nm (a := (s4X B N x).1) (b := 23)).tr ((mo_sg (m := 9)).tr mo_st)))))
    · exact mo_fl
  · show moX N x (gdX B N x T).1
    unfold gdX
    split
    · exact mo_st
    · exact mo_fl
  · show moX N x (plX B N x T).1
    unfold plX
    split
    · have e1 : moX N x (plA B N x T).2 := mo_kh
      have e2 : moX N (plA B N x T).2 (gtB B N (plA B N x T).2 T).2 := mo_gt
      have e3 : moX N (gtB B N (plA B N x T).2 T).2 (plE B N x T) := by
        unfold plE
        split
        · exact mo_fl
        · exact moX.eq rfl
      have e4 : moX N (plE B N x T) (plO B N x T).2 := mo_ow
      exact ((e1.tr e2).tr (e3.tr e4)).tr (moX.eq sc_e)
    · exact mo_fl
  · show moX N x (gtX B N x T).1
    unfold gtX
    split
    · exact (mo_gt (T := T)).tr mo_st
    · exact mo_fl
  · have e1 : moX N x (plA B N x T).2 := mo_kh
    have e2 : moX N (plA B N x T).2 (mkB B N x T).2 := mo_kh
    have e3 : moX N (mkB B N x T).2 (mkC B N x T) := by
      unfold mkC
      split
      · exact mo_fl
      · exact moX.eq rfl
    exact ((e1.tr e2).tr e3).tr ((mo_nm (a := 1) (b := 100)).tr mo_st)
  · exact mo_on.tr ((mo_nm (a := 0) (b := 20)).tr mo_st)
  · exact mo_on.tr ((mo_nm (a := 0) (b := 9)).tr mo_st)
  · exact mo_on.tr ((mo_nm (a := 0) (b := 14)).tr mo_st)
  · exact mo_on.tr ((mo_nm (a := 0) (b := 99)).tr mo_st)
  · exact mo_on.tr ((mo_wd (T := T) 5).tr mo_st)
  · exact mo_fl
theorem sc_0 {B : Nat → Int} {N : Nat} {x : aX} (h : (scX B N x).1 = 0) : x.1 = 0 := Decidable.byContradiction fun y => y (by rw [sc_f y] at h; exact h)
theorem fl_0 {c : Int} {x : aX} (h : (flX c x).1 = 0) : x.1 = 0 := Decidable.byContradiction fun y => y (by rw [fl_f y] at h; exact h)
theorem nm_0 {B : Nat → Int} {N : Nat} {a b : Int} {x : aX} (h : (nmX B N a b x).2.1 = 0) : x.1 = 0 := Decidable.byContradiction fun y => y (by rw [nm_f y] at h; exact h)
theorem ow_0 {B : Nat → Int} {N : Nat} {g : Int} {x : aX} (hg : 0 ≤ g) (h : (owX B N g x).2.1 = 0) : x.1 = 0 ∧ -1 ≤ (owX B N g x).1 ∧ (owX B N g x).1 < g ∨ x.1 = 0 ∧ (owX B N g x).1 = -1 := by
  unfold owX at h ⊢
  by_cases c : x.1 = 0 ∧ isWb B N 10 x = true
  · rw [if_pos c] at h ⊢
    have k := kh_r (B := B) (N := N) (c := g) (x := tkX B N x) hg
    have h' : (khX B N g (tkX B N x)).2.1 = 0 := tk_1.symm.trans h
    exact Or.inl ⟨c.1, by have := k.1; dsimp only; omega, k.2.2 h'⟩
  · rw [if_neg c] at h ⊢
    exact Or.inr ⟨h, rfl⟩
theorem ln_q {B : Nat → Int} {N q : Nat} {x : aX} {T : aT} (w : Nat) (hq : q < 128) : (lnX B N w q x T).1 < 128 ∧ (lnX B N w q x T).1 ≠ 0 := by
  have k : ∀ b : Nat, b = 1 ∨ b = 2 ∨ b = 4 ∨ b = 8 ∨ b = 16 ∨ b = 32 ∨ b = 64 → ∀ q : Nat, q < 128 → (q ||| b) < 128 ∧ (q ||| b) ≠ 0 := by
    rintro b (rfl | rfl | rfl | rfl | rfl | rfl | rfl) <;> decide +kernel
  unfold lnX
  split <;> exact k _ (by omega) q hq
theorem TOKp.set {T : aT} {v : Int} {j : Nat} (h : TOKp T) (hv : (j = 3 ∧ 0 ≤ v ∧ v ≤ 5) ∨ (j = 6 ∧ 0 ≤ v ∧ v ≤ 20) ∨ (j = 7 ∧ 0 ≤ v ∧ v ≤ 9) ∨ (j = 8 ∧ 0 ≤ v ∧ v ≤ 14) ∨ (j = 9 ∧ 0 ≤ v ∧ v ≤ 99)) (h3 : j = 3 → T 0 3 ≤ v) : TOKp (tS T 0 j v) := by
  obtain ⟨q1, q2, q3, q4, q5, q6⟩ := h
  unfold TOKp
  rcases hv with ⟨rfl, r⟩ | ⟨rfl, r⟩ | ⟨rfl, r⟩ | ⟨rfl, r⟩ | ⟨rfl, r⟩
  · have h3' := h3 rfl
    simp (disch := omega) only [tS_ne, tS_eq]
    exact ⟨by omega, q2, q3, fun p hp => by have := q4 p hp; omega, q5, q6⟩
  · simp (disch := omega) only [tS_ne, tS_eq]
    exact ⟨by omega, q2, q3, q4, q5, q6⟩
  · simp (disch := omega) only [tS_ne, tS_eq]
    exact ⟨by omega, q2, q3, q4, q5, q6⟩
  · simp (disch := omega) only [tS_ne, tS_eq]
    exact ⟨by omega, q2, q3, q4, q5, q6⟩
  · simp (disch := omega) only [tS_ne, tS_eq]
    exact ⟨by omega, q2, q3, q4, q5, q6⟩
theorem TOKp.setw {T : aT} {v : Int} {j : Nat} (h : TOKp T) (h1 : 0 ≤ v) (h2 : v ≤ 99) : TOKp (tS T 0 (10 + j) v) := by
  obtain ⟨q1, q2, q3, q4, q5, q6⟩ := h
  unfold TOKp
  simp (disch := omega) only [tS_ne]
  refine ⟨q1, fun w hw => ?_, q3, q4, q5, q6⟩
  by_cases y : w = j
  · subst y; rw [tS_eq]; exact ⟨h1, h2⟩
  · rw [tS_ne (by omega)]; exact q2 w hw
theorem TOKp.gate {T : aT} {v : Int} (h : TOKp T) (h1 : 0 ≤ v) (h2 : v < T 0 0 * T 0 1) (h5 : T 0 5 < 5) : TOKp (tS (tS T 11 (T 0 5).toNat v) 0 5 (T 0 5 + 1)) := by
  obtain ⟨q1, q2, q3, q4, q5, q6⟩ := h
  unfold TOKp
  simp (disch := omega) only [tS_ne, tS_eq]
  refine ⟨by omega, q2, q3, q4, fun i hi => ?_, q6⟩
  by_cases y : i = (T 0 5).toNat
  · subst y; rw [tS_eq]; exact ⟨h1, h2⟩
  · rw [tS_ne (by omega)]; exact q5 i (by omega)
theorem TOKp.mask {T : aT} {v : Int} {m : Nat} (h : TOKp T) (h1 : 0 ≤ v) (h2 : v ≤ 100) : TOKp (tS T 12 m v) := by
  obtain ⟨q1, q2, q3, q4, q5, q6⟩ := h
  unfold TOKp
  simp (disch := omega) only [tS_ne]
  refine ⟨q1, q2, q3, q4, q5, fun i hi => ?_⟩
  by_cases y : i = m
  · subst y; rw [tS_eq]; exact ⟨h1, h2⟩
  · rw [tS_ne (by omega)]; exact q6 i hi
theorem TOKp.town {T : aT} {a b : Int} (h : TOKp T) (a1 : 2 ≤ a) (a2 : a ≤ 8) (b1 : 2 ≤ b) (b2 : b ≤ 8) (h4 : T 0 4 = 0) (h5 : T 0 5 = 0) : TOKp (tS (tS T 0 0 a) 0 1 b) := by
  obtain ⟨q1, q2, q3, q4, q5, q6⟩ := h
  have m1 : a * b ≤ 64 := Int.mul_le_mul a2 b2 (by omega) (by omega)
  have m2 : 4 ≤ a * b := Int.mul_le_mul a1 b1 (by omega) (by omega)
  unfold TOKp
  simp (disch := omega) only [tS_ne, tS_eq]
  exact ⟨by omega, q2, q3, fun p hp => absurd hp (by omega), fun i hi => absurd hi (by omega), q6⟩
theorem TOKp.plant {T : aT} {a c o : Int} (h : TOKp T) (a1 : 0 ≤ a) (a2 : a < T 0 2) (c1 : 0 ≤ c) (c2 : c < T 0 0 * T 0 1) (o1 : -1 ≤ o) (o2 : o < T 0 3) (h4 : T 0 4 < 12) : TOKp (plW T a c o) := by
  obtain ⟨q1, q2, q3, q4, q5, q6⟩ := h
  unfold TOKp plW
  simp (disch := omega) only [tS_ne, tS_eq]
  refine ⟨by omega, q2, q3, fun p hp => ?_, q5, q6⟩
  by_cases y : p = (T 0 4).toNat
  · subst y; rw [tS_eq, tS_eq, tS_eq]; exact ⟨a1, a2, c1, c2, o1, o2⟩
  · simp (disch := omega) only [tS_ne]
    exact q4 p (by omega)
theorem TOKp.sort {T : aT} {v : Nat → Int} (h : TOKp T) (h2 : T 0 2 < 6) (hv : 1 ≤ v 1 ∧ v 1 ≤ 99 ∧ 0 ≤ v 2 ∧ v 2 ≤ 51 ∧ 0 ≤ v 3 ∧ v 3 ≤ 51 ∧ 0 ≤ v 4 ∧ v 4 ≤ 23 ∧ 0 ≤ v 5 ∧ v 5 ≤ 23 ∧ -9 ≤ v 6 ∧ v 6 ≤ 9 ∧ 0 ≤ v 7 ∧ v 7 ≤ 1) : TOKp (srT T v) := by
  obtain ⟨q1, q2, q3, q4, q5, q6⟩ := h
  have e2 : srT T v 0 2 = T 0 2 + 1 := by unfold srT; rw [if_pos ⟨rfl, rfl⟩]
  have e0 : ∀ j : Nat, j ≠ 2 → srT T v 0 j = T 0 j := fun j hj => sr_o (by omega) (by omega)
  unfold TOKp
  rw [e2, e0 0 (by omega), e0 1 (by omega), e0 3 (by omega), e0 4 (by omega), e0 5 (by omega), e0 6 (by omega), e0 7 (by omega), e0 8 (by omega), e0 9 (by omega), sr_r (k := 8) (by omega), sr_r (k := 9) (by omega), sr_r (k := 10) (by omega), sr_r (k := 11) (by omega), sr_r (k := 12) (by omega)]
  refine ⟨by omega, fun w hw => by rw [e0 _ (by omega)]; exact q2 w hw, fun s hs => ?_, fun p hp => by have := q4 p hp; omega, q5, q6⟩
  by_cases y : s = (T 0 2).toNat
  · subst y
    rw [sr_v (k := 1) (by omega) (by omega), sr_v (k := 2) (by omega) (by omega), sr_v (k := 3) (by omega) (by omega), sr_v (k := 4) (by omega) (by omega), sr_v (k := 5) (by omega) (by omega), sr_v (k := 6) (by omega) (by omega), sr_v (k := 7) (by omega) (by omega)]
    exact hv
  · rw [sr_o (k := 1) (by omega) (by omega), sr_o (k := 2) (by omega) (by omega), sr_o (k := 3) (by omega) (by omega), sr_o (k := 4) (by omega) (by omega), sr_o (k := 5) (by omega) (by omega), sr_o (k := 6) (by omega) (by omega), sr_o (k := 7) (by omega) (by omega)]
    exact q3 s (by omega)
theorem so_t {B : Nat → Int} {N : Nat} {x : aX} {T : aT} {h : Int} (h01 : h = 0 ∨ h = 1) (hT : TOKp T) (z : (soX B N h x T).1.1 = 0) : TOKp (soX B N h x T).2 := by
  unfold soX at z ⊢
  by_cases c : T 0 2 < 6
  · rw [if_pos c]
    obtain ⟨r1, r2, r3, r4, r5, r6⟩ := s_r (B := B) (N := N) (x := x)
    refine hT.sort c ?_
    have e1 : svX B N x h 1 = (s1X B N x).1 := rfl
    have e2 : svX B N x h 2 = (s2X B N x).1 := rfl
    have e3 : svX B N x h 3 = (s3X B N x).1 := rfl
    have e4 : svX B N x h 4 = (s4X B N x).1 := rfl
    have e5 : svX B N x h 5 = (s5X B N x).1 := rfl
    have e6 : svX B N x h 6 = (s6X B N x).1 := rfl
    have e7 : svX B N x h 7 = h := rfl
    rw [e1, e2, e3, e4, e5, e6, e7]
    omega
  · rw [if_neg c] at z
    exact absurd z (fl_1 (by omega))
theorem wd_t {B : Nat → Int} {N : Nat} {x : aX} {T : aT} (hT : TOKp T) : ∀ n : Nat, TOKp (wdX B N x T n).2
  | 0 => hT
  | n + 1 => by
    have r := nh_r (B := B) (N := N) (a := 0) (b := 99) (x := tkX B N (wdX B N x T n).1) (by omega)
    exact (wd_t hT n).setw r.1 r.2
theorem ln_t {B : Nat → Int} {N q : Nat} {x : aX} {T : aT} (w : Nat) (hT : TOKp T) (h4 : q = 0 → T 0 4 = 0 ∧ T 0 5 = 0) (z : (lnX B N w q x T).2.1.1 = 0) : TOKp (lnX B N w q x T).2.2 := by
  have hq := hT.1
  unfold lnX at z ⊢
  split at z
  · have e : q = 0 := by
      by_cases c : q = 0
      · exact c
      · have z' : (twX B N (if q = 0 then x else flX 4 x) T).1.1 = 0 := z
        rw [if_neg c, tw_f (fl_1 (by omega))] at z'
        exact absurd z' (fl_1 (by omega))
    have ra := nh_r (B := B) (N := N) (a := 2) (b := 8) (x := tkX B N (if q = 0 then x else flX 4 x)) (by omega)
    have rb := nh_r (B := B) (N := N) (a := 2) (b := 8) (x := tkX B N (nmX B N 2 8 (if q = 0 then x else flX 4 x)).2) (by omega)
    exact hT.town ra.1 ra.2 rb.1 rb.2 (h4 e).1 (h4 e).2
  · exact so_t (Or.inl rfl) hT z
  · exact so_t (Or.inr rfl) hT z
  · have z' : (gdX B N x T).1.1 = 0 := z
    show TOKp (gdX B N x T).2
    unfold gdX at z' ⊢
    by_cases c : T 0 3 < 5
    · rw [if_pos c]
      exact hT.set (Or.inl ⟨rfl, by omega, by omega⟩) (fun _ => by omega)
    · rw [if_neg c] at z'
      exact absurd z' (fl_1 (by omega))
  · have z' : (plX B N x T).1.1 = 0 := z
    show TOKp (plX B N x T).2
    unfold plX at z' ⊢
    by_cases c : T 0 4 < 12
    · rw [if_pos c] at z' ⊢
      have o := ow_0 (show 0 ≤ T 0 3 by omega) (sc_0 z')
      have z1 : (plE B N x T).1 = 0 := by
        rcases o with o | o
        · exact tk_1.symm.trans o.1
        · exact tk_1.symm.trans o.1
      have z2 : (gtB B N (plA B N x T).2 T).2.1 = 0 := by
        unfold plE at z1
        split at z1
        · exact fl_0 z1
        · exact z1
      have z3 : (plA B N x T).2.1 = 0 := nm_0 (nm_0 z2)
      have k := kh_r (B := B) (N := N) (c := T 0 2) (x := tkX B N x) (by omega)
      have g := gt_b (B := B) (N := N) (x := (plA B N x T).2) hT
      refine hT.plant k.1 (k.2.2 z3) g.1 g.2 ?_ ?_ c
      · rcases o with o | o
        · exact o.2.1
        · show -1 ≤ (owX B N (T 0 3) (tkX B N (plE B N x T))).1
          omega
      · rcases o with o | o
        · exact o.2.2
        · show (owX B N (T 0 3) (tkX B N (plE B N x T))).1 < _
          omega
    · rw [if_neg c] at z'
      exact absurd z' (fl_1 (by omega))
  · have z' : (gtX B N x T).1.1 = 0 := z
    show TOKp (gtX B N x T).2
    unfold gtX at z' ⊢
    by_cases c : T 0 5 < 5
    · rw [if_pos c]
      have g := gt_b (B := B) (N := N) (x := x) hT
      exact hT.gate g.1 g.2 c
    · rw [if_neg c] at z'
      exact absurd z' (fl_1 (by omega))
  · have r := nh_r (B := B) (N := N) (a := 1) (b := 100) (x := tkX B N (mkC B N x T)) (by omega)
    exact hT.mask (by show 0 ≤ (nhX B N 1 100 (tkX B N (mkC B N x T))).1; omega) r.2
  · have r := nh_r (B := B) (N := N) (a := 0) (b := 20) (x := tkX B N (onX q 1 x)) (by omega)
    exact hT.set (Or.inr (Or.inl ⟨rfl, r⟩)) (fun h => absurd h (by omega))
  · have r := nh_r (B := B) (N := N) (a := 0) (b := 9) (x := tkX B N (onX q 2 x)) (by omega)
    exact hT.set (Or.inr (Or.inr (Or.inl ⟨rfl, r⟩))) (fun h => absurd h (by omega))
  · have r := nh_r (B := B) (N := N) (a := 0) (b := 14) (x := tkX B N (onX q 4 x)) (by omega)
    exact hT.set (Or.inr (Or.inr (Or.inr (Or.inl ⟨rfl, r⟩)))) (fun h => absurd h (by omega))
  · have r := nh_r (B := B) (N := N) (a := 0) (b := 99) (x := tkX B N (onX q 8 x)) (by omega)
    exact hT.set (Or.inr (Or.inr (Or.inr (Or.inr ⟨rfl, r⟩)))) (fun h => absurd h (by omega))
  · exact wd_t hT 5
  · exact hT
end SPE
