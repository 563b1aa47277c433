section ENT
theorem eT_1 (i : Nat) {w : Cond} (h : tables_1_1[i]? = some w) : w ∈ lw_tbl := List.mem_append_right _ (List.mem_append_left _ (List.mem_of_getElem? h))
theorem eT_2 (i : Nat) {w : Cond} (h : tables_1_2[i]? = some w) : w ∈ lw_tbl := List.mem_append_right _ (List.mem_append_right _ (List.mem_append_left _ (List.mem_of_getElem? h)))
theorem eT_3 (i : Nat) {w : Cond} (h : tables_1_3[i]? = some w) : w ∈ lw_tbl := List.mem_append_right _ (List.mem_append_right _ (List.mem_append_right _ (List.mem_append_left _ (List.mem_of_getElem? h))))
theorem eT_4 (i : Nat) {w : Cond} (h : tables_1_4[i]? = some w) : w ∈ lw_tbl := List.mem_append_right _ (List.mem_append_right _ (List.mem_append_right _ (List.mem_append_right _ (List.mem_append_left _ (List.mem_of_getElem? h)))))
theorem eT_5 (i : Nat) {w : Cond} (h : tables_1_5[i]? = some w) : w ∈ lw_tbl := List.mem_append_right _ (List.mem_append_right _ (List.mem_append_right _ (List.mem_append_right _ (List.mem_append_right _ (List.mem_append_left _ (List.mem_of_getElem? h))))))
theorem eT_6 (i : Nat) {w : Cond} (h : tables_1_6[i]? = some w) : w ∈ lw_tbl := List.mem_append_right _ (List.mem_append_right _ (List.mem_append_right _ (List.mem_append_right _ (List.mem_append_right _ (List.mem_append_right _ (List.mem_append_left _ (List.mem_of_getElem? h)))))))
theorem eT_7 (i : Nat) {w : Cond} (h : tables_1_7[i]? = some w) : w ∈ lw_tbl := List.mem_append_right _ (List.mem_append_right _ (List.mem_append_right _ (List.mem_append_right _ (List.mem_append_right _ (List.mem_append_right _ (List.mem_append_right _ (List.mem_append_left _ (List.mem_of_getElem? h))))))))
theorem eT_8 (i : Nat) {w : Cond} (h : tables_1_8[i]? = some w) : w ∈ lw_tbl := List.mem_append_right _ (List.mem_append_right _ (List.mem_append_right _ (List.mem_append_right _ (List.mem_append_right _ (List.mem_append_right _ (List.mem_append_right _ (List.mem_append_right _ (List.mem_of_getElem? h))))))))
def fE : List Cond := flatC (Jvm.Cond.and given_1 narrow_1)
theorem fE_at {args : Array Value} {s : State} (h : (Jvm.Cond.and given_1 narrow_1).before args s = true) (i : Nat) {w : Cond} (hw : fE[i]? = some w) : w.before args s = true := flat_of_before _ h w (List.mem_of_getElem? hw)
def eSt (own : String) (ix : Nat) (bs : List Int32) (args : Array Value) (s : State) (A : Nat → Prop) : Prop := ∃ q : Nat × Nat, (Term.string own ix).eval args s none [] s = some (.ref q.1) ∧ va_O "java/lang/String" q.1 A s s.heap ∧ va_OF "java/lang/String" "coder" "B" (.int 0) q.1 A s s.heap ∧ va_OF "java/lang/String" "value" "[B" (.ref q.2) q.1 A s s.heap ∧ va_T .byte q.2 bs.length (fun j => .int (bs.getD j 0)) A s s.heap
theorem eStr {args : Array Value} {s : State} {A : Nat → Prop} (hA : ∀ a : Nat, a < s.heap.size → ¬ A a) (own : String) (ix b0 : Nat) (bs : List Int32) (h : (Jvm.Cond.and given_1 narrow_1).before args s = true) (h0 : fE[b0]? = some (.exactly (.string own ix) "java/lang/String")) (h1 : fE[b0 + 1]? = some (.eq (.field (.string own ix) "java/lang/String" "coder" "B") (.int 0))) (h2 : fE[b0 + 2]? = some (.arrayOf (.field (.string own ix) "java/lang/String" "value" "[B") .byte)) (h3 : fE[b0 + 3]? = some (.eq (.length (.field (.string own ix) "java/lang/String" "value" "[B")) (.int (Int32.ofNat bs.length)))) (h4 : ∀ j : Nat, j < bs.length → fE[b0 + 4 + j]? = some (.eq (.elem (.field (.string own ix) "java/lang/String" "value" "[B") (.int (Int32.ofNat j))) (.int (bs.getD j 0)))) (hl : bs.length < 2 ^ 31) : eSt own ix bs args s A := by
  obtain ⟨a, c, cA, kA, q1, q2, q3, q4, q5, q6, -⟩ := Cond.exactly_spec (args := args) (first := s) (o := none) (s := s) (idx := []) (t := .string own ix) (cls := "java/lang/String") (fE_at h _ h0)
  obtain ⟨t, ht, hT⟩ := va_Tof (f := fun j => .int (bs.getD j 0)) (A := A) hl (fE_at h _ h2) (va_eqt (fE_at h _ h3)) (fun j hj => va_eqt (fE_at h _ (h4 j hj))) hA
  exact ⟨(a, t), q1, ⟨cA, q3, q5, by rw [q6]; exact q2, hA a (Array.getElem?_eq_some_iff.mp q3).1⟩, vk_OFof q1 (va_eqt (fE_at h _ h1)) hA, vk_OFof q1 ht hA, hT⟩
theorem gAd_s (G : aG) (w : Nat) (h : w < 10000) : gAd G (10000 + w) = gK G w := by
  unfold gAd
  rw [if_neg (by omega), if_pos (by omega), Nat.add_sub_cancel_left]
theorem vk_at {G : aG} {own tx : String} {ix w a : Nat} {A : Array Value} (hw : w < 10000) (e : gK G w = a) (h1 : (Cond.stringRef own ix tx).before A (gs G) = true) (h2 : (Term.string own ix).eval A (gs G) none [] (gs G) = some (.ref a)) : vk_R own ix tx (gAd G (10000 + w)) (gs G) := by
  rw [gAd_s G w hw, e]
  exact vk_R.of h1 h2
theorem eArO {C : String} {s : State} {args : Array Value} (h : (Cond.arrayOver (.object C)).before args s = true) : ∃ cA : ClassId, ArrOfT s cA (.object C) ∧ va_RA s cA (.object C) := by
  obtain ⟨comp, c, k, h1, h2, h3, h4, h5⟩ := Cond.arrayOver_spec h
  exact ⟨c, fun n z => ⟨fun k h => (by cases h), k, h3, comp, h4⟩, k, comp, h3, h4, h1, h5⟩
theorem eAr_byte {s : State} {args : Array Value} (h : (Cond.arrayClass .byte).before args s = true) : ∃ cA : ClassId, ArrOfT s cA .byte ∧ va_RA s cA .byte := by
  obtain ⟨c, k, comp, h1, h2, h3⟩ := Cond.arrayClass_spec h
  exact ⟨c, fun n z => ⟨fun k h => (by cases h), k, h2, comp, h3⟩, h1⟩
theorem eAr_int {s : State} {args : Array Value} (h : (Cond.arrayClass .int).before args s = true) : ∃ cA : ClassId, ArrOfT s cA .int ∧ va_RA s cA .int := by
  obtain ⟨c, k, comp, h1, h2, h3⟩ := Cond.arrayClass_spec h
  exact ⟨c, fun n z => ⟨fun k h => (by cases h), k, h2, comp, h3⟩, h1⟩
theorem eAr_long {s : State} {args : Array Value} (h : (Cond.arrayClass .long).before args s = true) : ∃ cA : ClassId, ArrOfT s cA .long ∧ va_RA s cA .long := by
  obtain ⟨c, k, comp, h1, h2, h3⟩ := Cond.arrayClass_spec h
  exact ⟨c, fun n z => ⟨fun k h => (by cases h), k, h2, comp, h3⟩, h1⟩
theorem eAr_boolean {s : State} {args : Array Value} (h : (Cond.arrayClass .boolean).before args s = true) : ∃ cA : ClassId, ArrOfT s cA .boolean ∧ va_RA s cA .boolean := by
  obtain ⟨c, k, comp, h1, h2, h3⟩ := Cond.arrayClass_spec h
  exact ⟨c, fun n z => ⟨fun k h => (by cases h), k, h2, comp, h3⟩, h1⟩
theorem eS_0 {args : Array Value} {s : State} {A : Nat → Prop} (hA : ∀ a : Nat, a < s.heap.size → ¬ A a) (h : (Jvm.Cond.and given_1 narrow_1).before args s = true) : eSt "NoseTown$Reader" 95 [102, 97, 100, 101] args s A := eStr (args := args) (s := s) (A := A) hA "NoseTown$Reader" 95 138 [102, 97, 100, 101] h (by decide +kernel) (by decide +kernel) (by decide +kernel) (by decide +kernel) (by decide +kernel) (by decide)
theorem eS_1 {args : Array Value} {s : State} {A : Nat → Prop} (hA : ∀ a : Nat, a < s.heap.size → ¬ A a) (h : (Jvm.Cond.and given_1 narrow_1).before args s = true) : eSt "NoseTown$Reader" 106 [103, 97, 105, 110] args s A := eStr (args := args) (s := s) (A := A) hA "NoseTown$Reader" 106 146 [103, 97, 105, 110] h (by decide +kernel) (by decide +kernel) (by decide +kernel) (by decide +kernel) (by decide +kernel) (by decide)
theorem eS_2 {args : Array Value} {s : State} {A : Nat → Prop} (hA : ∀ a : Nat, a < s.heap.size → ¬ A a) (h : (Jvm.Cond.and given_1 narrow_1).before args s = true) : eSt "NoseTown$Reader" 110 [97, 103, 97, 105, 110, 115, 116] args s A := eStr (args := args) (s := s) (A := A) hA "NoseTown$Reader" 110 154 [97, 103, 97, 105, 110, 115, 116] h (by decide +kernel) (by decide +kernel) (by decide +kernel) (by decide +kernel) (by decide +kernel) (by decide)
theorem eS_3 {args : Array Value} {s : State} {A : Nat → Prop} (hA : ∀ a : Nat, a < s.heap.size → ¬ A a) (h : (Jvm.Cond.and given_1 narrow_1).before args s = true) : eSt "NoseTown$Reader" 114 [99, 111, 108, 100] args s A := eStr (args := args) (s := s) (A := A) hA "NoseTown$Reader" 114 165 [99, 111, 108, 100] h (by decide +kernel) (by decide +kernel) (by decide +kernel) (by decide +kernel) (by decide +kernel) (by decide)
theorem eS_4 {args : Array Value} {s : State} {A : Nat → Prop} (hA : ∀ a : Nat, a < s.heap.size → ¬ A a) (h : (Jvm.Cond.and given_1 narrow_1).before args s = true) : eSt "NoseTown$Reader" 118 [119, 105, 110, 100, 115] args s A := eStr (args := args) (s := s) (A := A) hA "NoseTown$Reader" 118 173 [119, 105, 110, 100, 115] h (by decide +kernel) (by decide +kernel) (by decide +kernel) (by decide +kernel) (by decide +kernel) (by decide)
theorem eS_5 {args : Array Value} {s : State} {A : Nat → Prop} (hA : ∀ a : Nat, a < s.heap.size → ¬ A a) (h : (Jvm.Cond.and given_1 narrow_1).before args s = true) : eSt "NoseTown$Reader" 56 [116, 111, 119, 110] args s A := eStr (args := args) (s := s) (A := A) hA "NoseTown$Reader" 56 73 [116, 111, 119, 110] h (by decide +kernel) (by decide +kernel) (by decide +kernel) (by decide +kernel) (by decide +kernel) (by decide)
theorem eS_6 {args : Array Value} {s : State} {A : Nat → Prop} (hA : ∀ a : Nat, a < s.heap.size → ¬ A a) (h : (Jvm.Cond.and given_1 narrow_1).before args s = true) : eSt "NoseTown$Reader" 65 [115, 111, 114, 116] args s A := eStr (args := args) (s := s) (A := A) hA "NoseTown$Reader" 65 81 [115, 111, 114, 116] h (by decide +kernel) (by decide +kernel) (by decide +kernel) (by decide +kernel) (by decide +kernel) (by decide)
theorem eS_7 {args : Array Value} {s : State} {A : Nat → Prop} (hA : ∀ a : Nat, a < s.heap.size → ¬ A a) (h : (Jvm.Cond.and given_1 narrow_1).before args s = true) : eSt "NoseTown$Reader" 70 [104, 101, 114, 98] args s A := eStr (args := args) (s := s) (A := A) hA "NoseTown$Reader" 70 89 [104, 101, 114, 98] h (by decide +kernel) (by decide +kernel) (by decide +kernel) (by decide +kernel) (by decide +kernel) (by decide)
theorem eS_8 {args : Array Value} {s : State} {A : Nat → Prop} (hA : ∀ a : Nat, a < s.heap.size → ¬ A a) (h : (Jvm.Cond.and given_1 narrow_1).before args s = true) : eSt "NoseTown$Reader" 72 [103, 97, 114, 100, 101, 110] args s A := eStr (args := args) (s := s) (A := A) hA "NoseTown$Reader" 72 97 [103, 97, 114, 100, 101, 110] h (by decide +kernel) (by decide +kernel) (by decide +kernel) (by decide +kernel) (by decide +kernel) (by decide)
theorem eS_9 {args : Array Value} {s : State} {A : Nat → Prop} (hA : ∀ a : Nat, a < s.heap.size → ¬ A a) (h : (Jvm.Cond.and given_1 narrow_1).before args s = true) : eSt "NoseTown$Reader" 77 [112, 108, 97, 110, 116] args s A := eStr (args := args) (s := s) (A := A) hA "NoseTown$Reader" 77 107 [112, 108, 97, 110, 116] h (by decide +kernel) (by decide +kernel) (by decide +kernel) (by decide +kernel) (by decide +kernel) (by decide)
theorem eS_10 {args : Array Value} {s : State} {A : Nat → Prop} (hA : ∀ a : Nat, a < s.heap.size → ¬ A a) (h : (Jvm.Cond.and given_1 narrow_1).before args s = true) : eSt "NoseTown$Reader" 203 [111, 102] args s A := eStr (args := args) (s := s) (A := A) hA "NoseTown$Reader" 203 116 [111, 102] h (by decide +kernel) (by decide +kernel) (by decide +kernel) (by decide +kernel) (by decide +kernel) (by decide)
theorem eS_11 {args : Array Value} {s : State} {A : Nat → Prop} (hA : ∀ a : Nat, a < s.heap.size → ¬ A a) (h : (Jvm.Cond.and given_1 narrow_1).before args s = true) : eSt "NoseTown$Reader" 82 [103, 97, 116, 101] args s A := eStr (args := args) (s := s) (A := A) hA "NoseTown$Reader" 82 122 [103, 97, 116, 101] h (by decide +kernel) (by decide +kernel) (by decide +kernel) (by decide +kernel) (by decide +kernel) (by decide)
theorem eS_12 {args : Array Value} {s : State} {A : Nat → Prop} (hA : ∀ a : Nat, a < s.heap.size → ¬ A a) (h : (Jvm.Cond.and given_1 narrow_1).before args s = true) : eSt "NoseTown$Reader" 87 [109, 97, 115, 107] args s A := eStr (args := args) (s := s) (A := A) hA "NoseTown$Reader" 87 130 [109, 97, 115, 107] h (by decide +kernel) (by decide +kernel) (by decide +kernel) (by decide +kernel) (by decide +kernel) (by decide)
theorem eS_13 {args : Array Value} {s : State} {A : Nat → Prop} (hA : ∀ a : Nat, a < s.heap.size → ¬ A a) (h : (Jvm.Cond.and given_1 narrow_1).before args s = true) : eSt "NoseTown" 96 [116, 104, 101, 32, 116, 97, 112, 101, 32, 104, 97, 115, 32, 110, 111, 116, 32, 115, 111, 32, 109, 97, 110, 121, 32, 98, 121, 116, 101, 115] args s A := eStr (args := args) (s := s) (A := A) hA "NoseTown" 96 39 [116, 104, 101, 32, 116, 97, 112, 101, 32, 104, 97, 115, 32, 110, 111, 116, 32, 115, 111, 32, 109, 97, 110, 121, 32, 98, 121, 116, 101, 115] h (by decide +kernel) (by decide +kernel) (by decide +kernel) (by decide +kernel) (by decide +kernel) (by decide)
theorem eS_14 {args : Array Value} {s : State} {A : Nat → Prop} (hA : ∀ a : Nat, a < s.heap.size → ¬ A a) (h : (Jvm.Cond.and given_1 narrow_1).before args s = true) : eSt "NoseTown" 323 [116, 104, 101, 114, 101, 32, 105, 115, 32, 110, 111, 32, 115, 117, 99, 104, 32, 116, 104, 105, 110, 103] args s A := eStr (args := args) (s := s) (A := A) hA "NoseTown" 323 182 [116, 104, 101, 114, 101, 32, 105, 115, 32, 110, 111, 32, 115, 117, 99, 104, 32, 116, 104, 105, 110, 103] h (by decide +kernel) (by decide +kernel) (by decide +kernel) (by decide +kernel) (by decide +kernel) (by decide)
theorem eS_15 {args : Array Value} {s : State} {A : Nat → Prop} (hA : ∀ a : Nat, a < s.heap.size → ¬ A a) (h : (Jvm.Cond.and given_1 narrow_1).before args s = true) : eSt "NoseTown" 248 [97, 32, 112, 114, 105, 122, 101, 32, 105, 115, 32, 48, 32, 116, 111, 32, 57, 57, 57, 57] args s A := eStr (args := args) (s := s) (A := A) hA "NoseTown" 248 208 [97, 32, 112, 114, 105, 122, 101, 32, 105, 115, 32, 48, 32, 116, 111, 32, 57, 57, 57, 57] h (by decide +kernel) (by decide +kernel) (by decide +kernel) (by decide +kernel) (by decide +kernel) (by decide)
theorem eS_16 {args : Array Value} {s : State} {A : Nat → Prop} (hA : ∀ a : Nat, a < s.heap.size → ¬ A a) (h : (Jvm.Cond.and given_1 narrow_1).before args s = true) : eSt "NoseTown" 312 [100, 97, 121, 115, 32, 97, 114, 101, 32, 48, 32, 116, 111, 32, 49, 48, 48] args s A := eStr (args := args) (s := s) (A := A) hA "NoseTown" 312 232 [100, 97, 121, 115, 32, 97, 114, 101, 32, 48, 32, 116, 111, 32, 49, 48, 48] h (by decide +kernel) (by decide +kernel) (by decide +kernel) (by decide +kernel) (by decide +kernel) (by decide)
theorem eq_RX12_9 {args : Array Value} {s : State} {q : Nat} (h : (Jvm.Cond.and given_1 narrow_1).before args s = true) (e : (Term.string "NoseTown$Reader" 95).eval args s none [] s = some (.ref q)) : (Term.string "NoseTownModel" 9).eval args s none [] s = some (.ref q) := va_eqR (fE_at h 261 (by decide +kernel)) e
theorem eq_RX12_11 {args : Array Value} {s : State} {q : Nat} (h : (Jvm.Cond.and given_1 narrow_1).before args s = true) (e : (Term.string "NoseTown$Reader" 106).eval args s none [] s = some (.ref q)) : (Term.string "NoseTownModel" 11).eval args s none [] s = some (.ref q) := va_eqR (fE_at h 270 (by decide +kernel)) e
theorem eq_RX12_13 {args : Array Value} {s : State} {q : Nat} (h : (Jvm.Cond.and given_1 narrow_1).before args s = true) (e : (Term.string "NoseTown$Reader" 110).eval args s none [] s = some (.ref q)) : (Term.string "NoseTownModel" 13).eval args s none [] s = some (.ref q) := va_eqR (fE_at h 282 (by decide +kernel)) e
theorem eq_RX12_15 {args : Array Value} {s : State} {q : Nat} (h : (Jvm.Cond.and given_1 narrow_1).before args s = true) (e : (Term.string "NoseTown$Reader" 114).eval args s none [] s = some (.ref q)) : (Term.string "NoseTownModel" 15).eval args s none [] s = some (.ref q) := va_eqR (fE_at h 291 (by decide +kernel)) e
theorem eq_RX12_240 {args : Array Value} {s : State} {q : Nat} (h : (Jvm.Cond.and given_1 narrow_1).before args s = true) (e : (Term.string "NoseTown$Reader" 70).eval args s none [] s = some (.ref q)) : (Term.string "NoseTownModel" 240).eval args s none [] s = some (.ref q) := va_eqR (fE_at h 328 (by decide +kernel)) e
theorem eq_RX12_254 {args : Array Value} {s : State} {q : Nat} (h : (Jvm.Cond.and given_1 narrow_1).before args s = true) (e : (Term.string "NoseTown$Reader" 203).eval args s none [] s = some (.ref q)) : (Term.string "NoseTownModel" 254).eval args s none [] s = some (.ref q) := va_eqR (fE_at h 356 (by decide +kernel)) e
theorem eq_RX12_259 {args : Array Value} {s : State} {q : Nat} (h : (Jvm.Cond.and given_1 narrow_1).before args s = true) (e : (Term.string "NoseTown$Reader" 118).eval args s none [] s = some (.ref q)) : (Term.string "NoseTownModel" 259).eval args s none [] s = some (.ref q) := va_eqR (fE_at h 301 (by decide +kernel)) e
theorem eq_RX12_261 {args : Array Value} {s : State} {q : Nat} (h : (Jvm.Cond.and given_1 narrow_1).before args s = true) (e : (Term.string "NoseTown$Reader" 56).eval args s none [] s = some (.ref q)) : (Term.string "NoseTownModel" 261).eval args s none [] s = some (.ref q) := va_eqR (fE_at h 310 (by decide +kernel)) e
theorem eq_RX12_273 {args : Array Value} {s : State} {q : Nat} (h : (Jvm.Cond.and given_1 narrow_1).before args s = true) (e : (Term.string "NoseTown$Reader" 65).eval args s none [] s = some (.ref q)) : (Term.string "NoseTownModel" 273).eval args s none [] s = some (.ref q) := va_eqR (fE_at h 319 (by decide +kernel)) e
theorem eq_RX12_278 {args : Array Value} {s : State} {q : Nat} (h : (Jvm.Cond.and given_1 narrow_1).before args s = true) (e : (Term.string "NoseTown$Reader" 72).eval args s none [] s = some (.ref q)) : (Term.string "NoseTownModel" 278).eval args s none [] s = some (.ref q) := va_eqR (fE_at h 339 (by decide +kernel)) e
theorem eq_RX12_280 {args : Array Value} {s : State} {q : Nat} (h : (Jvm.Cond.and given_1 narrow_1).before args s = true) (e : (Term.string "NoseTown$Reader" 77).eval args s none [] s = some (.ref q)) : (Term.string "NoseTownModel" 280).eval args s none [] s = some (.ref q) := va_eqR (fE_at h 349 (by decide +kernel)) e
theorem eq_RX12_285 {args : Array Value} {s : State} {q : Nat} (h : (Jvm.Cond.and given_1 narrow_1).before args s = true) (e : (Term.string "NoseTown$Reader" 82).eval args s none [] s = some (.ref q)) : (Term.string "NoseTownModel" 285).eval args s none [] s = some (.ref q) := va_eqR (fE_at h 365 (by decide +kernel)) e
theorem eq_RX12_286 {args : Array Value} {s : State} {q : Nat} (h : (Jvm.Cond.and given_1 narrow_1).before args s = true) (e : (Term.string "NoseTown$Reader" 87).eval args s none [] s = some (.ref q)) : (Term.string "NoseTownModel" 286).eval args s none [] s = some (.ref q) := va_eqR (fE_at h 374 (by decide +kernel)) e
set_option maxRecDepth 100000 in
set_option maxHeartbeats 4000000 in
theorem eG {l : Launch} {s : State} {b L : Nat} {xs : Nat → Int32} (hflags : l.flags = flags0) (hts : ∀ w ∈ lw_tbl, w.before #[Value.ref b] s = true) (hX : va_X b L xs s s.heap) (hb : b < s.heap.size) (hg : (Jvm.Cond.and given_1 narrow_1).before #[Value.ref b] s = true) : ∃ G : aG, gl G = l ∧ gs G = s ∧ gb G = b ∧ gL G = L ∧ gx G = xs ∧ gOK G ∧ gNest G ∧ va_Nc "java/lang/IllegalArgumentException" "java/util/NoSuchElementException" (gs G) := by
  have hA : ∀ a : Nat, a < s.heap.size → ¬ (s.heap.size ≤ a) := fun a h1 h2 => absurd h1 (Nat.not_lt.mpr h2)
  obtain ⟨c0, i0, k0⟩ := u_known (C := RX0) (T := TX0) (N := 4) (n := 4) hts (fun w hw => aU_tbl w (aU_X0 w hw)) (hts _ (eT_2 97 rfl))
  obtain ⟨c1, i1, k1⟩ := u_known (C := RX1) (T := TX1) (N := 11) (n := 11) hts (fun w hw => aU_tbl w (aU_X1 w hw)) (hts _ (eT_2 118 rfl))
  obtain ⟨c2, i2, k2⟩ := u_known (C := RX2) (T := TX2) (N := 7) (n := 7) hts (fun w hw => aU_tbl w (aU_X2 w hw)) (hts _ (eT_2 199 rfl))
  obtain ⟨c3, i3, k3⟩ := u_known (C := RX3) (T := TX3) (N := 10) (n := 10) hts (fun w hw => aU_tbl w (aU_X3 w hw)) (hts _ (eT_2 160 rfl))
  obtain ⟨c4, i4, k4⟩ := u_known (C := RX4) (T := TX4) (N := 5) (n := 5) hts (fun w hw => aU_tbl w (aU_X4 w hw)) (hts _ (eT_1 41 rfl))
  obtain ⟨c5, i5, k5⟩ := u_known (C := RX5) (T := TX5) (N := 7) (n := 7) hts (fun w hw => aU_tbl w (aU_X5 w hw)) (hts _ (eT_2 234 rfl))
  obtain ⟨c6, i6, k6⟩ := u_known (C := RX6) (T := TX6) (N := 17) (n := 17) hts (fun w hw => aU_tbl w (aU_X6 w hw)) (hts _ (eT_1 35 rfl))
  obtain ⟨c7, i7, k7⟩ := u_known (C := RX7) (T := TX7) (N := 9) (n := 9) hts (fun w hw => aU_tbl w (aU_X7 w hw)) (hts _ (eT_2 62 rfl))
  obtain ⟨c8, i8, k8⟩ := u_known (C := RX8) (T := TX8) (N := 7) (n := 7) hts (fun w hw => aU_tbl w (aU_X8 w hw)) (hts _ (eT_1 74 rfl))
  obtain ⟨c9, i9, k9⟩ := u_known (C := RX9) (T := TX9) (N := 10) (n := 10) hts (fun w hw => aU_tbl w (aU_X9 w hw)) (hts _ (eT_2 1 rfl))
  obtain ⟨c10, i10, k10⟩ := u_known (C := RX10) (T := TX10) (N := 8) (n := 8) hts (fun w hw => aU_tbl w (aU_X10 w hw)) (hts _ (eT_2 228 rfl))
  obtain ⟨c11, i11, k11⟩ := u_known (C := RX11) (T := TX11) (N := 14) (n := 14) hts (fun w hw => aU_tbl w (aU_X11 w hw)) (hts _ (eT_1 27 rfl))
  obtain ⟨c12, i12, k12⟩ := u_known (C := RX12) (T := TX12) (N := 66) (n := 66) hts (fun w hw => aU_tbl w (aU_X12 w hw)) (hts _ (eT_6 126 rfl))
  obtain ⟨y0, z0, w0⟩ := eAr_byte (hts _ (eT_1 69 rfl))
  obtain ⟨y1, z1, w1⟩ := eAr_int (hts _ (eT_1 70 rfl))
  obtain ⟨y2, z2, w2⟩ := eAr_long (hts _ (eT_3 22 rfl))
  obtain ⟨y3, z3, w3⟩ := eAr_boolean (hts _ (eT_1 71 rfl))
  obtain ⟨y4, z4, w4⟩ := eArO (C := RX8) (hts _ (eT_1 73 rfl))
  obtain ⟨y5, z5, w5⟩ := eArO (C := "java/lang/String") (hts _ (eT_6 132 rfl))
  obtain ⟨⟨a0, v0⟩, e0, p0, q0, r0, t0⟩ := eS_0 (A := fun q => s.heap.size ≤ q) hA hg
  obtain ⟨⟨a1, v1⟩, e1, p1, q1, r1, t1⟩ := eS_1 (A := fun q => s.heap.size ≤ q) hA hg
  obtain ⟨⟨a2, v2⟩, e2, p2, q2, r2, t2⟩ := eS_2 (A := fun q => s.heap.size ≤ q) hA hg
  obtain ⟨⟨a3, v3⟩, e3, p3, q3, r3, t3⟩ := eS_3 (A := fun q => s.heap.size ≤ q) hA hg
  obtain ⟨⟨a4, v4⟩, e4, p4, q4, r4, t4⟩ := eS_4 (A := fun q => s.heap.size ≤ q) hA hg
  obtain ⟨⟨a5, v5⟩, e5, p5, q5, r5, t5⟩ := eS_5 (A := fun q => s.heap.size ≤ q) hA hg
  obtain ⟨⟨a6, v6⟩, e6, p6, q6, r6, t6⟩ := eS_6 (A := fun q => s.heap.size ≤ q) hA hg
  obtain ⟨⟨a7, v7⟩, e7, p7, q7, r7, t7⟩ := eS_7 (A := fun q => s.heap.size ≤ q) hA hg
  obtain ⟨⟨a8, v8⟩, e8, p8, q8, r8, t8⟩ := eS_8 (A := fun q => s.heap.size ≤ q) hA hg
  obtain ⟨⟨a9, v9⟩, e9, p9, q9, r9, t9⟩ := eS_9 (A := fun q => s.heap.size ≤ q) hA hg
  obtain ⟨⟨a10, v10⟩, e10, p10, q10, r10, t10⟩ := eS_10 (A := fun q => s.heap.size ≤ q) hA hg
  obtain ⟨⟨a11, v11⟩, e11, p11, q11, r11, t11⟩ := eS_11 (A := fun q => s.heap.size ≤ q) hA hg
  obtain ⟨⟨a12, v12⟩, e12, p12, q12, r12, t12⟩ := eS_12 (A := fun q => s.heap.size ≤ q) hA hg
  obtain ⟨⟨a13, v13⟩, e13, p13, q13, r13, t13⟩ := eS_13 (A := fun q => s.heap.size ≤ q) hA hg
  obtain ⟨⟨a14, v14⟩, e14, p14, q14, r14, t14⟩ := eS_14 (A := fun q => s.heap.size ≤ q) hA hg
  obtain ⟨⟨a15, v15⟩, e15, p15, q15, r15, t15⟩ := eS_15 (A := fun q => s.heap.size ≤ q) hA hg
  obtain ⟨⟨a16, v16⟩, e16, p16, q16, r16, t16⟩ := eS_16 (A := fun q => s.heap.size ≤ q) hA hg
  generalize hG : (((l, s, (fun k => ([y0, y1, y2, y3, y4, y5] : List ClassId).getD k 0), ((fun k => ([c0, c1, c2, c3, c4, c5, c6, c7, c8, c9, c10, c11, c12] : List ClassId).getD k 0), (fun k => ([i0, i1, i2, i3, i4, i5, i6, i7, i8, i9, i10, i11, i12] : List (Nat → Nat)).getD k (fun _ => 0))), (fun k => ([a0, a1, a2, a3, a4, a5, a6, a7, a8, a9, a10, a11, a12, a13, a14, a15, a16] : List Nat).getD k 0), (fun k => ([v0, v1, v2, v3, v4, v5, v6, v7, v8, v9, v10, v11, v12, v13, v14, v15, v16] : List Nat).getD k 0), b, L, xs) : aG)) = G
  have g1 : gl G = l := by rw [← hG]; rfl
  have g2 : gs G = s := by rw [← hG]; rfl
  have g3 : gb G = b := by rw [← hG]; rfl
  have g4 : gL G = L := by rw [← hG]; rfl
  have g5 : gx G = xs := by rw [← hG]; rfl
  have gA : aA G = fun q => s.heap.size ≤ q := by rw [← hG]; rfl
  have ga0 : gK G 0 = a0 := by rw [← hG]; rfl
  have ga1 : gK G 1 = a1 := by rw [← hG]; rfl
  have ga2 : gK G 2 = a2 := by rw [← hG]; rfl
  have ga3 : gK G 3 = a3 := by rw [← hG]; rfl
  have ga4 : gK G 4 = a4 := by rw [← hG]; rfl
  have ga5 : gK G 5 = a5 := by rw [← hG]; rfl
  have ga6 : gK G 6 = a6 := by rw [← hG]; rfl
  have ga7 : gK G 7 = a7 := by rw [← hG]; rfl
  have ga8 : gK G 8 = a8 := by rw [← hG]; rfl
  have ga9 : gK G 9 = a9 := by rw [← hG]; rfl
  have ga10 : gK G 10 = a10 := by rw [← hG]; rfl
  have ga11 : gK G 11 = a11 := by rw [← hG]; rfl
  have ga12 : gK G 12 = a12 := by rw [← hG]; rfl
  have ga13 : gK G 13 = a13 := by rw [← hG]; rfl
  have ga14 : gK G 14 = a14 := by rw [← hG]; rfl
  have ga15 : gK G 15 = a15 := by rw [← hG]; rfl
  have ga16 : gK G 16 = a16 := by rw [← hG]; rfl
  have gv0 : gV G 0 = v0 := by rw [← hG]; rfl
  have gv1 : gV G 1 = v1 := by rw [← hG]; rfl
  have gv2 : gV G 2 = v2 := by rw [← hG]; rfl
  have gv3 : gV G 3 = v3 := by rw [← hG]; rfl
  have gv4 : gV G 4 = v4 := by rw [← hG]; rfl
  have gv5 : gV G 5 = v5 := by rw [← hG]; rfl
  have gv6 : gV G 6 = v6 := by rw [← hG]; rfl
  have gv7 : gV G 7 = v7 := by rw [← hG]; rfl
  have gv8 : gV G 8 = v8 := by rw [← hG]; rfl
  have gv9 : gV G 9 = v9 := by rw [← hG]; rfl
  have gv10 : gV G 10 = v10 := by rw [← hG]; rfl
  have gv11 : gV G 11 = v11 := by rw [← hG]; rfl
  have gv12 : gV G 12 = v12 := by rw [← hG]; rfl
  have hK : va_K (gD G) vwCl (gTy G) (gs G) := by
    rw [g2, ← hG]
    refine ⟨fun c q hq => ?_, fun k q hq => ?_⟩
    · match c, hq with
      | 0, hq => have e := Option.some.inj (show some (RX0, TX0, 4) = some q from hq); subst e; exact k0
      | 1, hq => have e := Option.some.inj (show some (RX1, TX1, 11) = some q from hq); subst e; exact k1
      | 2, hq => have e := Option.some.inj (show some (RX2, TX2, 7) = some q from hq); subst e; exact k2
      | 3, hq => have e := Option.some.inj (show some (RX3, TX3, 10) = some q from hq); subst e; exact k3
      | 4, hq => have e := Option.some.inj (show some (RX4, TX4, 5) = some q from hq); subst e; exact k4
      | 5, hq => have e := Option.some.inj (show some (RX5, TX5, 7) = some q from hq); subst e; exact k5
      | 6, hq => have e := Option.some.inj (show some (RX6, TX6, 17) = some q from hq); subst e; exact k6
      | 7, hq => have e := Option.some.inj (show some (RX7, TX7, 9) = some q from hq); subst e; exact k7
      | 8, hq => have e := Option.some.inj (show some (RX8, TX8, 7) = some q from hq); subst e; exact k8
      | 9, hq => have e := Option.some.inj (show some (RX9, TX9, 10) = some q from hq); subst e; exact k9
      | 10, hq => have e := Option.some.inj (show some (RX10, TX10, 8) = some q from hq); subst e; exact k10
      | 11, hq => have e := Option.some.inj (show some (RX11, TX11, 14) = some q from hq); subst e; exact k11
      | 12, hq => have e := Option.some.inj (show some (RX12, TX12, 66) = some q from hq); subst e; exact k12
      | c + 13, hq => exact absurd (List.getElem?_eq_some_iff.mp hq).1 (by show ¬ (c + 13 < 13); omega)
    · match k, hq with
      | 0, hq => have e := Option.some.inj (show some (y0, FieldType.byte) = some q from hq); subst e; exact ⟨z0, w0⟩
      | 1, hq => have e := Option.some.inj (show some (y1, FieldType.int) = some q from hq); subst e; exact ⟨z1, w1⟩
      | 2, hq => have e := Option.some.inj (show some (y2, FieldType.long) = some q from hq); subst e; exact ⟨z2, w2⟩
      | 3, hq => have e := Option.some.inj (show some (y3, FieldType.boolean) = some q from hq); subst e; exact ⟨z3, w3⟩
      | 4, hq => have e := Option.some.inj (show some (y4, FieldType.object RX8) = some q from hq); subst e; exact ⟨z4, w4⟩
      | 5, hq => have e := Option.some.inj (show some (y5, FieldType.object "java/lang/String") = some q from hq); subst e; exact ⟨z5, w5⟩
      | k + 6, hq => exact absurd (List.getElem?_eq_some_iff.mp hq).1 (by show ¬ (k + 6 < 6); omega)
  refine ⟨G, g1, g2, g3, g4, g5, ⟨hK, by rw [g2, g3, g4, g5]; exact hX, by unfold glo; rw [g2, g3]; exact hb, ⟨?_, ?_, ?_, ?_⟩, ⟨?_, ?_, ?_, ?_⟩⟩, ⟨?_, ?_, ?_, ?_⟩, ?_⟩
  · rw [g1]; show (!l.flags.contains Jvm.noTraceFlag) = false; rw [hflags]; decide +kernel
  · rw [g2, gA]; exact vx_Zqof (args := #[Value.ref b]) (hts _ (eT_4 74 rfl)) (hts _ (eT_1 15 rfl)) (fE_at hg 4 (by decide +kernel)) hA
  · rw [g2, gA]; exact vx_Zqof (args := #[Value.ref b]) (hts _ (eT_4 76 rfl)) (hts _ (eT_1 15 rfl)) (fE_at hg 5 (by decide +kernel)) hA
  · rw [g2]; exact List.forall_mem_cons.mpr ⟨va_Nw.of rfl (hts _ (eT_4 49 rfl)), List.forall_mem_cons.mpr ⟨va_Nw.of rfl (hts _ (eT_5 58 rfl)), List.forall_mem_cons.mpr ⟨va_Nw.of rfl (hts _ (eT_4 51 rfl)), List.forall_mem_cons.mpr ⟨va_Nw.of rfl (hts _ (eT_4 53 rfl)), List.forall_mem_cons.mpr ⟨va_Nw.of rfl (hts _ (eT_4 55 rfl)), fun _ h => absurd h List.not_mem_nil⟩⟩⟩⟩⟩
  · exact List.forall_mem_cons.mpr ⟨vk_at (A := #[Value.ref b]) (own := RX11) (ix := 96) (tx := "the tape has not so many bytes") (w := 13) (by decide) ga13 (by rw [g2]; exact hts _ (eT_4 87 rfl)) (by rw [g2]; exact e13),
      List.forall_mem_cons.mpr ⟨vk_at (A := #[Value.ref b]) (own := RX11) (ix := 248) (tx := "a prize is 0 to 9999") (w := 15) (by decide) ga15 (by rw [g2]; exact hts _ (eT_5 172 rfl)) (by rw [g2]; exact e15),
      List.forall_mem_cons.mpr ⟨vk_at (A := #[Value.ref b]) (own := RX11) (ix := 312) (tx := "days are 0 to 100") (w := 16) (by decide) ga16 (by rw [g2]; exact hts _ (eT_6 115 rfl)) (by rw [g2]; exact e16),
      List.forall_mem_cons.mpr ⟨vk_at (A := #[Value.ref b]) (own := RX11) (ix := 323) (tx := "there is no such thing") (w := 14) (by decide) ga14 (by rw [g2]; exact hts _ (eT_5 65 rfl)) (by rw [g2]; exact e14),
      List.forall_mem_cons.mpr ⟨vk_at (A := #[Value.ref b]) (own := RX7) (ix := 56) (tx := "town") (w := 5) (by decide) ga5 (by rw [g2]; exact hts _ (eT_4 132 rfl)) (by rw [g2]; exact e5),
      List.forall_mem_cons.mpr ⟨vk_at (A := #[Value.ref b]) (own := RX7) (ix := 65) (tx := "sort") (w := 6) (by decide) ga6 (by rw [g2]; exact hts _ (eT_4 214 rfl)) (by rw [g2]; exact e6),
      List.forall_mem_cons.mpr ⟨vk_at (A := #[Value.ref b]) (own := RX7) (ix := 70) (tx := "herb") (w := 7) (by decide) ga7 (by rw [g2]; exact hts _ (eT_4 223 rfl)) (by rw [g2]; exact e7),
      List.forall_mem_cons.mpr ⟨vk_at (A := #[Value.ref b]) (own := RX7) (ix := 72) (tx := "garden") (w := 8) (by decide) ga8 (by rw [g2]; exact hts _ (eT_4 224 rfl)) (by rw [g2]; exact e8),
      List.forall_mem_cons.mpr ⟨vk_at (A := #[Value.ref b]) (own := RX7) (ix := 77) (tx := "plant") (w := 9) (by decide) ga9 (by rw [g2]; exact hts _ (eT_4 229 rfl)) (by rw [g2]; exact e9),
      List.forall_mem_cons.mpr ⟨vk_at (A := #[Value.ref b]) (own := RX7) (ix := 82) (tx := "gate") (w := 11) (by decide) ga11 (by rw [g2]; exact hts _ (eT_5 7 rfl)) (by rw [g2]; exact e11),
      List.forall_mem_cons.mpr ⟨vk_at (A := #[Value.ref b]) (own := RX7) (ix := 87) (tx := "mask") (w := 12) (by decide) ga12 (by rw [g2]; exact hts _ (eT_5 12 rfl)) (by rw [g2]; exact e12),
      List.forall_mem_cons.mpr ⟨vk_at (A := #[Value.ref b]) (own := RX7) (ix := 95) (tx := "fade") (w := 0) (by decide) ga0 (by rw [g2]; exact hts _ (eT_5 21 rfl)) (by rw [g2]; exact e0),
      List.forall_mem_cons.mpr ⟨vk_at (A := #[Value.ref b]) (own := RX7) (ix := 106) (tx := "gain") (w := 1) (by decide) ga1 (by rw [g2]; exact hts _ (eT_5 26 rfl)) (by rw [g2]; exact e1),
      List.forall_mem_cons.mpr ⟨vk_at (A := #[Value.ref b]) (own := RX7) (ix := 110) (tx := "against") (w := 2) (by decide) ga2 (by rw [g2]; exact hts _ (eT_5 27 rfl)) (by rw [g2]; exact e2),
      List.forall_mem_cons.mpr ⟨vk_at (A := #[Value.ref b]) (own := RX7) (ix := 114) (tx := "cold") (w := 3) (by decide) ga3 (by rw [g2]; exact hts _ (eT_5 28 rfl)) (by rw [g2]; exact e3),
      List.forall_mem_cons.mpr ⟨vk_at (A := #[Value.ref b]) (own := RX7) (ix := 118) (tx := "winds") (w := 4) (by decide) ga4 (by rw [g2]; exact hts _ (eT_5 29 rfl)) (by rw [g2]; exact e4),
      List.forall_mem_cons.mpr ⟨vk_at (A := #[Value.ref b]) (own := RX7) (ix := 203) (tx := "of") (w := 10) (by decide) ga10 (by rw [g2]; exact hts _ (eT_5 6 rfl)) (by rw [g2]; exact e10),
      List.forall_mem_cons.mpr ⟨vk_at (A := #[Value.ref b]) (own := RX12) (ix := 9) (tx := "fade") (w := 0) (by decide) ga0 (by rw [g2]; exact hts _ (eT_6 133 rfl)) (by rw [g2]; exact (eq_RX12_9 hg e0)),
      List.forall_mem_cons.mpr ⟨vk_at (A := #[Value.ref b]) (own := RX12) (ix := 11) (tx := "gain") (w := 1) (by decide) ga1 (by rw [g2]; exact hts _ (eT_6 134 rfl)) (by rw [g2]; exact (eq_RX12_11 hg e1)),
      List.forall_mem_cons.mpr ⟨vk_at (A := #[Value.ref b]) (own := RX12) (ix := 13) (tx := "against") (w := 2) (by decide) ga2 (by rw [g2]; exact hts _ (eT_6 135 rfl)) (by rw [g2]; exact (eq_RX12_13 hg e2)),
      List.forall_mem_cons.mpr ⟨vk_at (A := #[Value.ref b]) (own := RX12) (ix := 15) (tx := "cold") (w := 3) (by decide) ga3 (by rw [g2]; exact hts _ (eT_6 136 rfl)) (by rw [g2]; exact (eq_RX12_15 hg e3)),
      List.forall_mem_cons.mpr ⟨vk_at (A := #[Value.ref b]) (own := RX12) (ix := 240) (tx := "herb") (w := 7) (by decide) ga7 (by rw [g2]; exact hts _ (eT_7 165 rfl)) (by rw [g2]; exact (eq_RX12_240 hg e7)),
      List.forall_mem_cons.mpr ⟨vk_at (A := #[Value.ref b]) (own := RX12) (ix := 254) (tx := "of") (w := 10) (by decide) ga10 (by rw [g2]; exact hts _ (eT_7 200 rfl)) (by rw [g2]; exact (eq_RX12_254 hg e10)),
      List.forall_mem_cons.mpr ⟨vk_at (A := #[Value.ref b]) (own := RX12) (ix := 259) (tx := "winds") (w := 4) (by decide) ga4 (by rw [g2]; exact hts _ (eT_7 138 rfl)) (by rw [g2]; exact (eq_RX12_259 hg e4)),
      List.forall_mem_cons.mpr ⟨vk_at (A := #[Value.ref b]) (own := RX12) (ix := 261) (tx := "town") (w := 5) (by decide) ga5 (by rw [g2]; exact hts _ (eT_7 139 rfl)) (by rw [g2]; exact (eq_RX12_261 hg e5)),
      List.forall_mem_cons.mpr ⟨vk_at (A := #[Value.ref b]) (own := RX12) (ix := 273) (tx := "sort") (w := 6) (by decide) ga6 (by rw [g2]; exact hts _ (eT_7 164 rfl)) (by rw [g2]; exact (eq_RX12_273 hg e6)),
      List.forall_mem_cons.mpr ⟨vk_at (A := #[Value.ref b]) (own := RX12) (ix := 278) (tx := "garden") (w := 8) (by decide) ga8 (by rw [g2]; exact hts _ (eT_7 182 rfl)) (by rw [g2]; exact (eq_RX12_278 hg e8)),
      List.forall_mem_cons.mpr ⟨vk_at (A := #[Value.ref b]) (own := RX12) (ix := 280) (tx := "plant") (w := 9) (by decide) ga9 (by rw [g2]; exact hts _ (eT_7 183 rfl)) (by rw [g2]; exact (eq_RX12_280 hg e9)),
      List.forall_mem_cons.mpr ⟨vk_at (A := #[Value.ref b]) (own := RX12) (ix := 285) (tx := "gate") (w := 11) (by decide) ga11 (by rw [g2]; exact hts _ (eT_7 205 rfl)) (by rw [g2]; exact (eq_RX12_285 hg e11)),
      List.forall_mem_cons.mpr ⟨vk_at (A := #[Value.ref b]) (own := RX12) (ix := 286) (tx := "mask") (w := 12) (by decide) ga12 (by rw [g2]; exact hts _ (eT_7 206 rfl)) (by rw [g2]; exact (eq_RX12_286 hg e12)),
      fun _ h => absurd h List.not_mem_nil⟩⟩⟩⟩⟩⟩⟩⟩⟩⟩⟩⟩⟩⟩⟩⟩⟩⟩⟩⟩⟩⟩⟩⟩⟩⟩⟩⟩⟩⟩
  · intro w hw
    rw [g2, gA]
    match w, hw with
    | 0, _ => rw [ga0, gv0]; exact ⟨p0, q0, r0, t0⟩
    | 1, _ => rw [ga1, gv1]; exact ⟨p1, q1, r1, t1⟩
    | 2, _ => rw [ga2, gv2]; exact ⟨p2, q2, r2, t2⟩
    | 3, _ => rw [ga3, gv3]; exact ⟨p3, q3, r3, t3⟩
    | 4, _ => rw [ga4, gv4]; exact ⟨p4, q4, r4, t4⟩
    | 5, _ => rw [ga5, gv5]; exact ⟨p5, q5, r5, t5⟩
    | 6, _ => rw [ga6, gv6]; exact ⟨p6, q6, r6, t6⟩
    | 7, _ => rw [ga7, gv7]; exact ⟨p7, q7, r7, t7⟩
    | 8, _ => rw [ga8, gv8]; exact ⟨p8, q8, r8, t8⟩
    | 9, _ => rw [ga9, gv9]; exact ⟨p9, q9, r9, t9⟩
    | 10, _ => rw [ga10, gv10]; exact ⟨p10, q10, r10, t10⟩
    | 11, _ => rw [ga11, gv11]; exact ⟨p11, q11, r11, t11⟩
    | 12, _ => rw [ga12, gv12]; exact ⟨p12, q12, r12, t12⟩
    | w + 13, h => exact absurd h (by omega)
  · rw [g2, gA]; exact va_Zof (args := #[Value.ref b]) (hts _ (eT_4 146 rfl)) (hts _ (eT_1 20 rfl)) (va_eqt (fE_at hg 6 (by decide +kernel))) hA
  · rw [g2, gA]; exact va_Zqof (args := #[Value.ref b]) (hts _ (eT_4 162 rfl)) (hts _ (eT_1 22 rfl)) (fE_at hg 7 (by decide +kernel)) hA
  · rw [g2]; exact va_Nw.of rfl (hts _ (eT_1 42 rfl))
  · rw [g2]; exact va_Nw.of rfl (hts _ (eT_1 75 rfl))
  · rw [g2]; exact va_AO.of (hts _ (eT_1 73 rfl))
  · rw [g2]; exact va_AO.of (hts _ (eT_6 132 rfl))
  · rw [g2]; exact va_Nc.of (fE_at hg 38 (by decide +kernel))
end ENT
