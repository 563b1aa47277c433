/-! ways: rows of how plants are, one after another; the first best -/
section WAY
def upH (H : Nat → Int) (m : Nat) (v : Int) (p : Nat) : Int := if p = m then v else H p
theorem upH_eq {H : Nat → Int} {m : Nat} {v : Int} : upH H m v m = v := if_pos rfl
theorem upH_o {H : Nat → Int} {m p : Nat} {v : Int} (h : p ≠ m) : upH H m v p = H p := if_neg h
theorem upH_up {H : Nat → Int} {m : Nat} {v w : Int} : upH (upH H m v) m w = upH H m w := by
  funext p
  unfold upH
  by_cases h : p = m
  · rw [if_pos h, if_pos h]
  · rw [if_neg h, if_neg h, if_neg h]
theorem upH_cm {H : Nat → Int} {m n : Nat} {v w : Int} (h : m ≠ n) : upH (upH H m v) n w = upH (upH H n w) m v := by
  funext p
  unfold upH
  by_cases a : p = m
  · by_cases b : p = n
    · omega
    · rw [if_neg b, if_pos a, if_pos a]
  · by_cases b : p = n
    · rw [if_pos b, if_neg a, if_pos b]
    · rw [if_neg b, if_neg a, if_neg a, if_neg b]
theorem upH_id {H : Nat → Int} {m : Nat} {v : Int} (h : H m = v) : upH H m v = H := by
  funext p
  unfold upH
  by_cases a : p = m
  · rw [if_pos a, a, h]
  · rw [if_neg a]
/-- all rows of ways: a list of plants with how many ways each has -/
def rwF : List (Nat × Nat) → (Nat → Int) → List (Nat → Int)
  | [], H => [H]
  | (m, c) :: ms, H => (List.range c).flatMap (fun v : Nat => rwF ms (upH H m v))
def fsV (val : (Nat → Int) → Int) (st : Int × (Nat → Int)) (H : Nat → Int) : Int × (Nat → Int) := if st.1 < val H then (val H, H) else st
theorem fv_mo {val : (Nat → Int) → Int} : ∀ (L : List (Nat → Int)) (st : Int × (Nat → Int)), st.1 ≤ (L.foldl (fsV val) st).1
  | [], st => Int.le_refl _
  | H :: L, st => by
    have h := fv_mo (val := val) L (fsV val st H)
    have e : st.1 ≤ (fsV val st H).1 := by
      unfold fsV
      split
      · rename_i z; exact Int.le_of_lt z
      · exact Int.le_refl _
    exact Int.le_trans e h
theorem fv_ge {val : (Nat → Int) → Int} : ∀ (L : List (Nat → Int)) (st : Int × (Nat → Int)) (H : Nat → Int), H ∈ L → val H ≤ (L.foldl (fsV val) st).1
  | H' :: L, st, H, h => by
    rcases List.mem_cons.mp h with h | h
    · subst h
      have e : val H ≤ (fsV val st H).1 := by
        unfold fsV
        split
        · exact Int.le_refl _
        · rename_i z; exact Int.not_lt.mp z
      exact Int.le_trans e (fv_mo L _)
    · exact fv_ge L (fsV val st H') H h
theorem fv_id {val : (Nat → Int) → Int} : ∀ (L : List (Nat → Int)) (st : Int × (Nat → Int)), (∀ H : Nat → Int, H ∈ L → val H ≤ st.1) → L.foldl (fsV val) st = st
  | [], st, _ => rfl
  | H :: L, st, h => by
    have e : fsV val st H = st := by
      unfold fsV
      rw [if_neg (Int.not_lt.mpr (h H (by simp)))]
    show L.foldl (fsV val) (fsV val st H) = st
    rw [e]
    exact fv_id L st (fun H' h' => h H' (by simp [h']))
/-- from a floor on -/
theorem fv_fl {val : (Nat → Int) → Int} {fl : Int} {x : Nat → Int} : ∀ (L : List (Nat → Int)) (st : Int × (Nat → Int)), st.1 ≤ fl → L.foldl (fsV val) (fl, x) = if fl < (L.foldl (fsV val) st).1 then L.foldl (fsV val) st else (fl, x)
  | [], st, h => by
    show (fl, x) = if fl < st.1 then st else (fl, x)
    rw [if_neg (Int.not_lt.mpr h)]
  | H :: L, st, h => by
    show L.foldl (fsV val) (fsV val (fl, x) H) = if fl < (L.foldl (fsV val) (fsV val st H)).1 then L.foldl (fsV val) (fsV val st H) else (fl, x)
    by_cases z : fl < val H
    · have e1 : fsV val (fl, x) H = (val H, H) := if_pos z
      have e2 : fsV val st H = (val H, H) := if_pos (Int.lt_of_le_of_lt h z)
      rw [e1, e2, if_pos (Int.lt_of_lt_of_le z (fv_mo L (val H, H)))]
    · have e1 : fsV val (fl, x) H = (fl, x) := if_neg z
      rw [e1]
      refine fv_fl L (fsV val st H) ?_
      unfold fsV
      split
      · exact Int.not_lt.mp z
      · exact h
theorem rw_m {m : Nat} {v w : Int} : ∀ (ms : List (Nat × Nat)) (H H' : Nat → Int), (∀ q : Nat × Nat, q ∈ ms → q.1 ≠ m) → H' ∈ rwF ms (upH H m v) → upH H' m w ∈ rwF ms (upH H m w) ∧ H' m = v
  | [], H, H', _, h => by
    have e : H' = upH H m v := List.mem_singleton.mp h
    subst e
    exact ⟨List.mem_singleton.mpr upH_up, upH_eq⟩
  | (n, c) :: ms, H, H', hm, h => by
    have hn : n ≠ m := hm (n, c) (by simp)
    rw [rwF, List.mem_flatMap] at h ⊢
    obtain ⟨u, u1, u2⟩ := h
    rw [upH_cm (Ne.symm hn)] at u2
    have k := rw_m (w := w) ms (upH H n u) H' (fun q hq => hm q (by simp [hq])) u2
    refine ⟨⟨u, u1, ?_⟩, k.2⟩
    rw [upH_cm (Ne.symm hn)]
    exact k.1
/-- ways of plants that change nothing are left out: one way stands for all -/
theorem rw_red {val : (Nat → Int) → Int} {c' : Nat × Nat → Nat} : ∀ (ms : List (Nat × Nat)) (H : Nat → Int) (st : Int × (Nat → Int)), (ms.map Prod.fst).Nodup → (∀ q : Nat × Nat, q ∈ ms → c' q = q.2 ∨ (c' q = 1 ∧ 0 < q.2 ∧ ∀ (H : Nat → Int) (v : Int), val (upH H q.1 v) = val H)) →
    (rwF ms H).foldl (fsV val) st = (rwF (ms.map (fun q => (q.1, c' q))) H).foldl (fsV val) st
  | [], H, st, _, _ => rfl
  | (m, c) :: ms, H, st, hd, hc => by
    have hd' : (ms.map Prod.fst).Nodup := (List.nodup_cons.mp hd).2
    have hm : ∀ q : Nat × Nat, q ∈ ms → q.1 ≠ m := fun q hq z => (List.nodup_cons.mp hd).1 (List.mem_map.mpr ⟨q, hq, z⟩)
    have ih := fun (H : Nat → Int) (st : Int × (Nat → Int)) => rw_red (val := val) (c' := c') ms H st hd' (fun q hq => hc q (by simp [hq]))
    have key : ∀ (n : Nat) (st : Int × (Nat → Int)), ((List.range n).flatMap (fun v : Nat => rwF ms (upH H m v))).foldl (fsV val) st = ((List.range n).flatMap (fun v : Nat => rwF (ms.map (fun q => (q.1, c' q))) (upH H m v))).foldl (fsV val) st := by
      intro n
      induction n with
      | zero => intro st; rfl
      | succ n ihn =>
        intro st
        rw [List.range_succ, List.flatMap_append, List.flatMap_append, List.foldl_append, List.foldl_append, ihn]
        simp only [List.flatMap_cons, List.flatMap_nil, List.append_nil]
        exact ih _ _
    show ((List.range c).flatMap (fun v : Nat => rwF ms (upH H m v))).foldl (fsV val) st = ((List.range (c' (m, c))).flatMap (fun v : Nat => rwF (ms.map (fun q => (q.1, c' q))) (upH H m v))).foldl (fsV val) st
    rcases hc (m, c) (by simp) with h | ⟨h, h0, h1⟩
    · rw [h]; exact key c st
    · rw [h, ← key 1 st]
      -- all blocks behind the first change nothing
      have one : (List.range 1).flatMap (fun v : Nat => rwF ms (upH H m v)) = rwF ms (upH H m (0 : Nat)) := by
        show (([0] : List Nat)).flatMap (fun v : Nat => rwF ms (upH H m v)) = _
        simp
      rw [one]
      have more : ∀ n : Nat, 0 < n → ((List.range n).flatMap (fun v : Nat => rwF ms (upH H m v))).foldl (fsV val) st = (rwF ms (upH H m (0 : Nat))).foldl (fsV val) st := by
        intro n
        induction n with
        | zero => intro h; omega
        | succ n ihn =>
          intro _
          by_cases z : n = 0
          · subst z; rw [one]
          · rw [List.range_succ, List.flatMap_append, List.foldl_append, ihn (by omega)]
            simp only [List.flatMap_cons, List.flatMap_nil, List.append_nil]
            refine fv_id _ _ (fun H' h' => ?_)
            have k := rw_m (w := ((0 : Nat) : Int)) ms H H' hm h'
            have g := fv_ge (val := val) _ st _ k.1
            rw [h1 H'] at g
            exact g
      exact more c h0
end WAY
