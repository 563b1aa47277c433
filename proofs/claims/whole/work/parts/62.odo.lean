/-! rows of ways: the class's step from one to the next -/
section ODO
def nxS : List (Nat × Nat) → (Nat → Int) → Bool × (Nat → Int)
  | [], H => (false, H)
  | (m, c) :: ms, H => if (nxS ms H).1 then nxS ms H else if (nxS ms H).2 m + 1 < (c : Int) then (true, upH (nxS ms H).2 m ((nxS ms H).2 m + 1)) else (false, upH (nxS ms H).2 m 0)
def zrS : List (Nat × Nat) → (Nat → Int) → (Nat → Int)
  | [], H => H
  | (m, _) :: ms, H => zrS ms (upH H m 0)
def chW (N : (Nat → Int) → Bool × (Nat → Int)) : List (Nat → Int) → Prop
  | [] => True
  | [H] => (N H).1 = false
  | H :: H' :: L => N H = (true, H') ∧ chW N (H' :: L)
theorem zr_o {m : Nat} : ∀ (ms : List (Nat × Nat)) (H : Nat → Int), (∀ q : Nat × Nat, q ∈ ms → q.1 ≠ m) → zrS ms H m = H m
  | [], H, _ => rfl
  | (n, c) :: ms, H, h => by
    have hn : n ≠ m := h (n, c) (by simp)
    show zrS ms (upH H n 0) m = H m
    rw [zr_o ms _ (fun q hq => h q (by simp [hq])), upH_o (Ne.symm hn)]
theorem zr_up {m : Nat} {v : Int} : ∀ (ms : List (Nat × Nat)) (H : Nat → Int), (∀ q : Nat × Nat, q ∈ ms → q.1 ≠ m) → zrS ms (upH H m v) = upH (zrS ms H) m v
  | [], H, _ => rfl
  | (n, c) :: ms, H, h => by
    have hn : n ≠ m := h (n, c) (by simp)
    show zrS ms (upH (upH H m v) n 0) = upH (zrS ms (upH H n 0)) m v
    rw [upH_cm (Ne.symm hn), zr_up ms _ (fun q hq => h q (by simp [hq]))]
def ndS (ms : List (Nat × Nat)) : Prop := (ms.map Prod.fst).Nodup ∧ ∀ q : Nat × Nat, q ∈ ms → 0 < q.2
theorem nd_c {m c : Nat} {ms : List (Nat × Nat)} (h : ndS ((m, c) :: ms)) : ndS ms ∧ 0 < c ∧ ∀ q : Nat × Nat, q ∈ ms → q.1 ≠ m :=
  ⟨⟨(List.nodup_cons.mp h.1).2, fun q hq => h.2 q (by simp [hq])⟩, h.2 (m, c) (by simp), fun q hq z => (List.nodup_cons.mp h.1).1 (List.mem_map.mpr ⟨q, hq, z⟩)⟩
theorem nx_f : ∀ (ms : List (Nat × Nat)) (H X : Nat → Int), ndS ms → X ∈ rwF ms H → (nxS ms X).1 = false → (nxS ms X).2 = zrS ms H
  | [], H, X, _, h, _ => List.mem_singleton.mp h
  | (m, c) :: ms, H, X, hd, h, hf => by
    obtain ⟨h1, h2, h3⟩ := nd_c hd
    rw [rwF, List.mem_flatMap] at h
    obtain ⟨v, -, u2⟩ := h
    rw [nxS] at hf ⊢
    by_cases b : (nxS ms X).1 = true
    · rw [if_pos b] at hf
      rw [b] at hf
      cases hf
    · rw [if_neg b] at hf ⊢
      have ih := nx_f ms (upH H m v) X h1 u2 (by simpa using b)
      by_cases d : (nxS ms X).2 m + 1 < (c : Int)
      · rw [if_pos d] at hf
        cases hf
      · rw [if_neg d, ih]
        show upH (zrS ms (upH H m v)) m 0 = zrS ms (upH H m 0)
        rw [zr_up ms _ h3, zr_up ms _ h3, upH_up]
theorem rw_hd : ∀ (ms : List (Nat × Nat)) (H : Nat → Int), ndS ms → ∃ L : List (Nat → Int), rwF ms H = zrS ms H :: L
  | [], H, _ => ⟨[], rfl⟩
  | (m, c) :: ms, H, hd => by
    obtain ⟨h1, h2, h3⟩ := nd_c hd
    obtain ⟨L, hL⟩ := rw_hd ms (upH H m 0) h1
    obtain ⟨c, rfl⟩ : ∃ d, c = d + 1 := ⟨c - 1, by omega⟩
    rw [rwF, List.range_succ_eq_map, List.flatMap_cons]
    show ∃ L', rwF ms (upH H m 0) ++ _ = zrS ms (upH H m 0) :: L'
    rw [hL]
    exact ⟨_, rfl⟩
theorem ch_blk {m c v : Nat} {ms : List (Nat × Nat)} {H : Nat → Int} {R : List (Nat → Int)} (hd : ndS ((m, c) :: ms)) (hR : if v + 1 < c then (∃ R', R = zrS ms (upH H m ((v + 1 : Nat) : Int)) :: R') ∧ chW (nxS ((m, c) :: ms)) R else R = []) :
    ∀ L : List (Nat → Int), L ≠ [] → (∀ X : Nat → Int, X ∈ L → X ∈ rwF ms (upH H m v)) → chW (nxS ms) L → chW (nxS ((m, c) :: ms)) (L ++ R)
  | [X], _, hin, hc => by
    obtain ⟨h1, h2, h3⟩ := nd_c hd
    have f := nx_f ms _ X h1 (hin X (by simp)) hc
    have e : nxS ((m, c) :: ms) X = if (v : Int) + 1 < (c : Int) then (true, upH (zrS ms (upH H m v)) m ((v : Int) + 1)) else (false, upH (zrS ms (upH H m v)) m 0) := by
      have hc' : (nxS ms X).1 = false := hc
      rw [nxS, hc', if_neg (by decide), f, zr_o ms _ h3, upH_eq]
    by_cases z : v + 1 < c
    · rw [if_pos z] at hR
      obtain ⟨⟨R', rfl⟩, hR2⟩ := hR
      refine ⟨?_, hR2⟩
      rw [e, if_pos (by omega), zr_up ms _ h3, zr_up ms _ h3, upH_up]
      rfl
    · rw [if_neg z] at hR
      subst hR
      show (nxS ((m, c) :: ms) X).1 = false
      rw [e, if_neg (by omega)]
  | X :: X' :: L, _, hin, hc => by
    have ih := ch_blk hd hR (X' :: L) (by simp) (fun Y hY => hin Y (by simp at hY ⊢; exact Or.inr hY)) hc.2
    have e : nxS ((m, c) :: ms) X = (true, X') := by
      have hc1 : nxS ms X = (true, X') := hc.1
      rw [nxS, hc1, if_pos rfl]
    exact ⟨e, ih⟩
/-- the blocks from v on -/
def bkS (ms : List (Nat × Nat)) (H : Nat → Int) (m c : Nat) : Nat → List (Nat → Int)
  | 0 => []
  | d + 1 => rwF ms (upH H m ((c - (d + 1) : Nat) : Int)) ++ bkS ms H m c d
theorem bk_eq {ms : List (Nat × Nat)} {H : Nat → Int} {m c : Nat} : ∀ d : Nat, d ≤ c → (List.range (c - d)).flatMap (fun v : Nat => rwF ms (upH H m v)) ++ bkS ms H m c d = rwF ((m, c) :: ms) H
  | 0, _ => by rw [bkS, List.append_nil]; rfl
  | d + 1, h => by
    have ih := bk_eq (ms := ms) (H := H) (m := m) (c := c) d (by omega)
    rw [show c - d = (c - (d + 1)) + 1 by omega, List.range_succ, List.flatMap_append] at ih
    simp only [List.flatMap_cons, List.flatMap_nil, List.append_nil, List.append_assoc] at ih
    exact ih
theorem ch_rw : ∀ (ms : List (Nat × Nat)) (H : Nat → Int), ndS ms → chW (nxS ms) (rwF ms H)
  | [], H, _ => rfl
  | (m, c) :: ms, H, hd => by
    obtain ⟨h1, h2, h3⟩ := nd_c hd
    have key : ∀ d : Nat, d ≤ c → chW (nxS ((m, c) :: ms)) (bkS ms H m c d) := by
      intro d
      induction d with
      | zero => intro _; trivial
      | succ d ih =>
        intro hdc
        obtain ⟨L, hL⟩ := rw_hd ms (upH H m ((c - (d + 1) : Nat) : Int)) h1
        refine ch_blk (v := c - (d + 1)) (H := H) hd ?_ _ (by rw [hL]; simp) (fun X hX => hX) (ch_rw ms _ h1)
        by_cases z : c - (d + 1) + 1 < c
        · rw [if_pos z]
          refine ⟨?_, ih (by omega)⟩
          obtain ⟨d, rfl⟩ : ∃ e, d = e + 1 := ⟨d - 1, by omega⟩
          obtain ⟨L2, hL2⟩ := rw_hd ms (upH H m ((c - (d + 1) : Nat) : Int)) h1
          refine ⟨L2 ++ bkS ms H m c d, ?_⟩
          rw [bkS, hL2, show c - (d + 1 + 1) + 1 = c - (d + 1) by omega]
          rfl
        · rw [if_neg z]
          obtain rfl : d = 0 := by omega
          rfl
    have e := bk_eq (ms := ms) (H := H) (m := m) c (Nat.le_refl c)
    rw [Nat.sub_self] at e
    have e' : bkS ms H m c c = rwF ((m, c) :: ms) H := e
    rw [← e']
    exact key c (Nat.le_refl c)
end ODO
