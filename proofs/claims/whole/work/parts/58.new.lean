/-! what a new one holds: checked -/
section NEC
def newD (D : aD) : Decidable (newP D) := by unfold newP; infer_instance
def newB : Option aD → Bool
  | none => false
  | some D => @decide (newP D) (newD D)
set_option maxRecDepth 100000 in
theorem new_b : newB (f_law_new (fun _ _ => 0, fun _ _ => 0)) = true := by decide +kernel
theorem law_new_ok' : Ok (f_law_new (fun _ _ => 0, fun _ _ => 0)) lawP := by
  have h := new_b
  match e : f_law_new (fun _ _ => 0, fun _ _ => 0) with
  | none => rw [e] at h; cases h
  | some D => rw [e] at h; exact ⟨D, rfl, newP_rel (@of_decide_eq_true _ (newD D) h)⟩
end NEC
