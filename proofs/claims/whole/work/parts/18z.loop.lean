/-! THE CLAIM OUT OF ONE WALK OF THE LAW'S BODY (began as the skeleton's rows) -/
def R_law : String := "NoseTownLaw"
def lw_P (b : Addr) (xs : List Int32) (args : Array Value) (s : State) : Prop := args = #[.ref b] ∧ s.IntsAt b xs ∧ xs.length ≤ 3072 ∧ (Jvm.Cond.and given_1 narrow_1).before args s = true
def lw_Q (_ : Array Value) (s : State) (o : Outcome) (t : State) : Prop := o = .returned (some (.int 1)) ∧ Framed s o t [] 601024 7293034
def lw_Z (below : List Frame) (a : Array Value) (s : State) : State → Prop := fun t => ∃ o, t.status = .running ∧ Ended t below o ∧ lw_Q a s o t
def lw_At (p : Program) (s : State) (m : MethodId) (meth : Method) (c : Code) (b L : Nat) (xs : Nat → Int32) : Prop :=
  p.tables.exec = Jvm.exec ∧ c.code = code ∧ meth.sig.returnType = ret ∧ c.maxLocals = 7 ∧ s.vm.findClass R_law = some m.cls ∧ (∀ w ∈ lw_tbl, w.before #[Value.ref b] s = true) ∧ va_X b L xs s s.heap ∧ b < s.heap.size ∧ meth.locks = false ∧ (Jvm.Cond.and given_1 narrow_1).before #[Value.ref b] s = true
section LWE
theorem room_less {s : State} {pl : Platform} {r r' : Room} (hf : r.frames ≤ r'.frames) (hl : r.locals ≤ r'.locals) (hc : r.cells ≤ r'.cells) (hs : r.slots ≤ r'.slots) (h : s.hasRoom pl r' = true) : s.hasRoom pl r = true := by
  simp only [State.hasRoom, Bool.and_eq_true, decide_eq_true_eq] at h ⊢
  obtain ⟨⟨⟨⟨y, a, b, c, d, e⟩, f⟩, g⟩, i⟩ := h
  exact ⟨⟨⟨⟨by omega, by omega, by omega, by omega, by omega, e⟩, by omega⟩, by omega⟩, i⟩
theorem st_less {p : Program} {l : Launch} {e : Env} {R R' : Room} {s : State} {m : MethodId} {args : Array Value} {below : List Frame} {meth : Method} {c : Code} {T : State} {locs : List Loc} {cells slots : Nat} (hf : R'.frames ≤ R.frames) (hl : R'.locals ≤ R.locals) (hc : R'.cells ≤ R.cells) (hs : R'.slots ≤ R.slots) (X : Stand p l e R s m args below meth c T locs cells slots) : Stand p l e R' s m args below meth c T locs cells slots :=
  { admits := X.admits, cas := X.cas, clock := X.clock, frames := X.frames, room := room_less hf hl hc hs X.room, hears := X.hears, method := X.method, code := X.code, here := X.here, tail := X.tail, warmed := X.warmed, limits := X.limits, bytes := X.bytes, same := X.same }
theorem law_end {p : Program} {l : Launch} {e : Env} {R R' : Room} {s : State} {m : MethodId} {args : Array Value} {below : List Frame} {meth : Method} {c : Code} {H : Heap} {locs : List Loc} {kc ks : Nat} {g : JFrame} {G : aG} {Q : aQ} (hf : R'.frames ≤ R.frames) (hl : R'.locals ≤ R.locals) (hc : R'.cells ≤ R.cells) (hs : R'.slots ≤ R.slots) (hg : glo G = s.heap.size) (h1 : ∀ (v : Option Value) (shp : List aSh) (D : aD), Q (.inl v) shp D → v = some (.int 1)) (h2 : ∀ (E : String) (shp : List aSh) (D : aD), ¬ Q (.inr E) shp D) (k : W p l e R' s m args below meth c H locs kc ks (vx_MQ below (aQc G Q) (aXc G Q) args s 601024 7293034 (aA G)) g) : W p l e R s m args below meth c H locs kc ks (lw_Z below args s) g := by
  intro T hT X
  obtain ⟨t, st, o, a1, a2, a3⟩ := k T hT (st_less hf hl hc hs X)
  refine ⟨t, st, o, a1, a2, ?_⟩
  rcases a3 with ⟨⟨v, shp, D, rfl, hq, -, -⟩, L, hF, hL⟩ | ⟨q, -, E, ce, L, ⟨shp, D, hq, -⟩, -⟩
  · obtain rfl := h1 v shp D hq
    obtain ⟨-, hW, e1, e2, e3, e4, e5, e6⟩ := hF
    refine ⟨rfl, ⟨_, rfl⟩, hW, e1, e2, e3, e4, e5, fun a c ha => ?_⟩
    obtain ⟨c', f1, f2, f3, f4⟩ := e6 a c ha
    refine ⟨c', f1, f2, f3, fun i _ => f4 i (fun hm => ?_)⟩
    have h9 : glo G ≤ a := hL _ hm
    have h8 : a < s.heap.size := (Array.getElem?_eq_some_iff.mp ha).1
    exact absurd h8 (by rw [← hg]; exact Nat.not_lt.mpr h9)
  · exact absurd hq (h2 E shp D)
theorem law_k31 (x : Int32) : ∃ k : Nat, k < 32 ∧ x &&& 31 = Int32.ofNat k := by
  refine ⟨(x &&& 31).toBitVec.toNat, ?_, ?_⟩
  · rw [Int32.toBitVec_and, BitVec.toNat_and]
    exact Nat.lt_of_le_of_lt Nat.and_le_right (by decide)
  · refine Int32.toBitVec_inj.mp ?_
    show _ = BitVec.ofNat 32 _
    rw [BitVec.ofNat_toNat, BitVec.setWidth_eq]
theorem law_in {j c L : Nat} (hj : 6 * j + 6 ≤ L) (hL : L ≤ 3072) (hc : c < 6) : vp_in (Int32.ofNat (6 * j) + Int32.ofNat c) L := by
  rw [← Int32.ofNat_add]
  have h : (Int32.ofNat (6 * j + c)).toInt = ((6 * j + c : Nat) : Int) := Int32.toInt_ofNat_of_lt (by omega)
  rintro (h1 | h1)
  · rw [Int32.lt_iff_toInt_lt, h] at h1
    have : (0 : Int32).toInt = 0 := rfl
    omega
  · have e : (Int32.ofNat (6 * j + c)).toNatClampNeg = 6 * j + c := by
      show (Int32.ofNat (6 * j + c)).toInt.toNat = _
      rw [h]
      omega
    rw [e] at h1
    omega
theorem law_in0 {j L : Nat} (hj : 6 * j + 6 ≤ L) (hL : L ≤ 3072) : vp_in (Int32.ofNat (6 * j)) L := by
  have h := law_in hj hL (c := 0) (by omega)
  rw [← Int32.ofNat_add] at h
  exact h
theorem law_idx {j L : Nat} (hL : L ≤ 3072) (hj : j ≤ 512) (h : ¬ (Int32.ofNat L - 6 < Int32.ofNat (6 * j))) : 6 * j + 6 ≤ L := by
  rw [Int32.lt_iff_toInt_lt, Int32.toInt_sub, Int32.toInt_ofNat_of_lt (show L < 2 ^ 31 by omega), Int32.toInt_ofNat_of_lt (show 6 * j < 2 ^ 31 by omega)] at h
  have e : (6 : Int32).toInt = 6 := rfl
  rw [e] at h
  simp only [Int.bmod] at h
  split at h <;> omega
theorem kw_RL_8 : Cond.classLink "NoseTownLaw" 8 "NoseTown" ∈ aU ∧ Cond.instantiable "NoseTown" 14 ∈ aU ∧ Cond.initialized "NoseTown" ∈ aU := ⟨aU_1 26 rfl rfl, aU_1 27 rfl rfl, aU_1 1 rfl rfl⟩
theorem kw_RL_73 : Cond.classLink "NoseTownLaw" 73 "NoseTownModel" ∈ aU ∧ Cond.instantiable "NoseTownModel" 66 ∈ aU ∧ Cond.initialized "NoseTownModel" ∈ aU := ⟨aU_6 125 rfl rfl, aU_6 126 rfl rfl, aU_1 14 rfl rfl⟩
theorem ki_RL_72 : aLkI "NoseTownLaw" 72 11 M_X11_init ∧ aNp M_X11_init = some 0 := ⟨⟨aU_1 28 rfl rfl, aU_1 29 rfl rfl, aU_1 1 rfl rfl, aU_1 30 rfl rfl, rfl, rfl, ⟨by decide +kernel, by decide +kernel⟩⟩, by decide +kernel⟩
theorem ki_RL_75 : aLkI "NoseTownLaw" 75 12 M_X12_init ∧ aNp M_X12_init = some 0 := ⟨⟨aU_6 127 rfl rfl, aU_6 128 rfl rfl, aU_1 14 rfl rfl, aU_6 129 rfl rfl, rfl, rfl, ⟨by decide +kernel, by decide +kernel⟩⟩, by decide +kernel⟩
set_option maxRecDepth 100000 in
set_option maxHeartbeats 2000000 in
theorem law_turn {G : aG} (hG : gOK G) (hN : va_Nc "java/lang/IllegalArgumentException" "java/util/NoSuchElementException" (gs G)) {shp : List aSh} (hS : aShp shp) {nm : String} {tb : List (Nat × Nat × Nat × Nat)} {fr : Option Nat} {P : aD → Prop} (hL : gL G ≤ 3072) (hP : ∀ (k : Nat) (v1 v2 v3 v4 v5 : Int32) (D : aD), P D → Ok2 (f_law k v1 v2 v3 v4 v5 D) (fun r D => r = 1 ∧ P D)) {j : Nat} (hj : j ≤ 512) (KN : 6 * j + 6 ≤ gL G → ∀ D : aD, P D → AW G (aRm 1024 601024 7293034) (M_law nm tb) fr (133 + 4 * (j + 1)) (28483 + 24 * (j + 1)) 23 [some (.ref 30000), some (.ref 0), some (.ref 88), some (.ref 132), some (.int (Int32.ofNat (6 * (j + 1)))), none, none] [] shp D (fun o _ _ => o = .inl (some (.int 1)))) {D : aD} (hD : P D) : AW G (aRm 1024 601024 7293034) (M_law nm tb) fr (133 + 4 * j) (28483 + 24 * j) 23 [some (.ref 30000), some (.ref 0), some (.ref 88), some (.ref 132), some (.int (Int32.ofNat (6 * j))), none, none] [] shp D (fun o _ _ => o = .inl (some (.int 1))) := by
  refine aw_iload (M := (M_law nm tb)) (n := 25) dL_law_23 rfl rfl ?_
  refine aw_aload_n (M := (M_law nm tb)) (n := 26) (i := 0) dL_law_25 rfl rfl rfl ?_
  refine aw_slen (M := (M_law nm tb)) (n := 27) hG.2.1 hG.2.2.1 rfl dL_law_26 rfl ?_
  refine aw_bipush (M := (M_law nm tb)) (n := 29) (v := 6) dL_law_27 rfl (by decide) ?_
  refine aw_isub (M := (M_law nm tb)) (n := 30) dL_law_29 rfl ?_
  refine aw_icmp_gt (M := (M_law nm tb)) (n := 33) (tgt := 1689) dL_law_30 rfl (by decide) (fun c => ?_) (fun c => ?_)
  · refine aw_iconst (M := (M_law nm tb)) (n := 1690) (v := 1) dL_law_1689 rfl (by decide) ?_
    exact aw_zret (M := (M_law nm tb)) rfl (Or.inr rfl) (by show 133 + 4 * j ≤ 601024; omega) (by show 28483 + 24 * j ≤ 7293034; omega) dL_law_1690 rfl
  have hlt := law_idx hL hj c
  refine aw_aload_n (M := (M_law nm tb)) (n := 34) (i := 0) dL_law_33 rfl rfl rfl ?_
  refine aw_iload (M := (M_law nm tb)) (n := 36) dL_law_34 rfl rfl ?_
  refine aw_sld (M := (M_law nm tb)) (n := 37) hG.2.1 hG.2.2.1 (law_in0 hlt hL) dL_law_36 rfl ?_
  refine aw_bipush (M := (M_law nm tb)) (n := 39) (v := 31) dL_law_37 rfl (by decide) ?_
  refine aw_iand (M := (M_law nm tb)) (n := 40) dL_law_39 rfl ?_
  obtain ⟨k, hk, e⟩ := law_k31 (gx G (Int32.ofNat (6 * j)).toNatClampNeg)
  rw [e]
  have KT : ∀ D : aD, P D → AW G (aRm 1024 601024 7293034) (M_law nm tb) fr (133 + 4 * j + 4) (28483 + 24 * j + 24) 1683 [some (.ref 30000), some (.ref 0), some (.ref 88), some (.ref 132), some (.int (Int32.ofNat (6 * j))), none, none] [] shp D (fun o _ _ => o = .inl (some (.int 1))) := by
    intro D hD
    refine aw_iinc (M := (M_law nm tb)) (n := 1686) (y := Int32.ofNat (6 * (j + 1))) (al' := [some (.ref 30000), some (.ref 0), some (.ref 88), some (.ref 132), some (.int (Int32.ofNat (6 * (j + 1)))), none, none]) dL_law_1683 rfl rfl (by rw [show 6 * (j + 1) = 6 * j + 6 by omega, Int32.ofNat_add]; rfl) (Nat.le_of_ble_eq_true rfl) rfl ?_
    refine aw_goto (M := (M_law nm tb)) (tgt := 23) dL_law_1686 (by decide) ?_
    have h9 := KN hlt D hD
    rw [show 133 + 4 * j + 4 = 133 + 4 * (j + 1) by omega, show 28483 + 24 * j + 24 = 28483 + 24 * (j + 1) by omega]
    exact h9
  have hi : ∀ c : Nat, c < 6 → vp_in (Int32.ofNat (6 * j) + Int32.ofNat c) (gL G) := fun c hc => law_in hlt hL hc
  have hkc : 133 + 4 * j + 4 ≤ 601024 := by omega
  have hks : 28483 + 24 * j + 24 ≤ 7293034 := by omega
  match k, hk with
  | 0, _ => exact aw_tableIn (M := (M_law nm tb)) (tgt := 164) dL_law_40 (by decide) (by decide) rfl (by decide) (law_case_0 hG hN hS hi hkc hks (hP 0 (gx G (Int32.ofNat (6 * j) + 1).toNatClampNeg) (gx G (Int32.ofNat (6 * j) + 2).toNatClampNeg) (gx G (Int32.ofNat (6 * j) + 3).toNatClampNeg) (gx G (Int32.ofNat (6 * j) + 4).toNatClampNeg) (gx G (Int32.ofNat (6 * j) + 5).toNatClampNeg) D hD) KT)
  | 1, _ => exact aw_tableIn (M := (M_law nm tb)) (tgt := 237) dL_law_40 (by decide) (by decide) rfl (by decide) (law_case_1 hG hN hS hi hkc hks (hP 1 (gx G (Int32.ofNat (6 * j) + 1).toNatClampNeg) (gx G (Int32.ofNat (6 * j) + 2).toNatClampNeg) (gx G (Int32.ofNat (6 * j) + 3).toNatClampNeg) (gx G (Int32.ofNat (6 * j) + 4).toNatClampNeg) (gx G (Int32.ofNat (6 * j) + 5).toNatClampNeg) D hD) KT)
  | 2, _ => exact aw_tableIn (M := (M_law nm tb)) (tgt := 293) dL_law_40 (by decide) (by decide) rfl (by decide) (law_case_2 hG hN hS hi hkc hks (hP 2 (gx G (Int32.ofNat (6 * j) + 1).toNatClampNeg) (gx G (Int32.ofNat (6 * j) + 2).toNatClampNeg) (gx G (Int32.ofNat (6 * j) + 3).toNatClampNeg) (gx G (Int32.ofNat (6 * j) + 4).toNatClampNeg) (gx G (Int32.ofNat (6 * j) + 5).toNatClampNeg) D hD) KT)
  | 3, _ => exact aw_tableIn (M := (M_law nm tb)) (tgt := 306) dL_law_40 (by decide) (by decide) rfl (by decide) (law_case_3 hG hN hS hi hkc hks (hP 3 (gx G (Int32.ofNat (6 * j) + 1).toNatClampNeg) (gx G (Int32.ofNat (6 * j) + 2).toNatClampNeg) (gx G (Int32.ofNat (6 * j) + 3).toNatClampNeg) (gx G (Int32.ofNat (6 * j) + 4).toNatClampNeg) (gx G (Int32.ofNat (6 * j) + 5).toNatClampNeg) D hD) KT)
  | 4, _ => exact aw_tableIn (M := (M_law nm tb)) (tgt := 362) dL_law_40 (by decide) (by decide) rfl (by decide) (law_case_4 hG hN hS hi hkc hks (hP 4 (gx G (Int32.ofNat (6 * j) + 1).toNatClampNeg) (gx G (Int32.ofNat (6 * j) + 2).toNatClampNeg) (gx G (Int32.ofNat (6 * j) + 3).toNatClampNeg) (gx G (Int32.ofNat (6 * j) + 4).toNatClampNeg) (gx G (Int32.ofNat (6 * j) + 5).toNatClampNeg) D hD) KT)
  | 5, _ => exact aw_tableIn (M := (M_law nm tb)) (tgt := 430) dL_law_40 (by decide) (by decide) rfl (by decide) (law_case_5 hG hN hS hi hkc hks (hP 5 (gx G (Int32.ofNat (6 * j) + 1).toNatClampNeg) (gx G (Int32.ofNat (6 * j) + 2).toNatClampNeg) (gx G (Int32.ofNat (6 * j) + 3).toNatClampNeg) (gx G (Int32.ofNat (6 * j) + 4).toNatClampNeg) (gx G (Int32.ofNat (6 * j) + 5).toNatClampNeg) D hD) KT)
  | 6, _ => exact aw_tableIn (M := (M_law nm tb)) (tgt := 498) dL_law_40 (by decide) (by decide) rfl (by decide) (law_case_6 hG hN hS hi hkc hks (hP 6 (gx G (Int32.ofNat (6 * j) + 1).toNatClampNeg) (gx G (Int32.ofNat (6 * j) + 2).toNatClampNeg) (gx G (Int32.ofNat (6 * j) + 3).toNatClampNeg) (gx G (Int32.ofNat (6 * j) + 4).toNatClampNeg) (gx G (Int32.ofNat (6 * j) + 5).toNatClampNeg) D hD) KT)
  | 7, _ => exact aw_tableIn (M := (M_law nm tb)) (tgt := 523) dL_law_40 (by decide) (by decide) rfl (by decide) (law_case_7 hG hN hS hi hkc hks (hP 7 (gx G (Int32.ofNat (6 * j) + 1).toNatClampNeg) (gx G (Int32.ofNat (6 * j) + 2).toNatClampNeg) (gx G (Int32.ofNat (6 * j) + 3).toNatClampNeg) (gx G (Int32.ofNat (6 * j) + 4).toNatClampNeg) (gx G (Int32.ofNat (6 * j) + 5).toNatClampNeg) D hD) KT)
  | 8, _ => exact aw_tableIn (M := (M_law nm tb)) (tgt := 560) dL_law_40 (by decide) (by decide) rfl (by decide) (law_case_8 hG hN hS hi hkc hks (hP 8 (gx G (Int32.ofNat (6 * j) + 1).toNatClampNeg) (gx G (Int32.ofNat (6 * j) + 2).toNatClampNeg) (gx G (Int32.ofNat (6 * j) + 3).toNatClampNeg) (gx G (Int32.ofNat (6 * j) + 4).toNatClampNeg) (gx G (Int32.ofNat (6 * j) + 5).toNatClampNeg) D hD) KT)
  | 9, _ => exact aw_tableIn (M := (M_law nm tb)) (tgt := 573) dL_law_40 (by decide) (by decide) rfl (by decide) (law_case_9 hG hN hS hi hkc hks (hP 9 (gx G (Int32.ofNat (6 * j) + 1).toNatClampNeg) (gx G (Int32.ofNat (6 * j) + 2).toNatClampNeg) (gx G (Int32.ofNat (6 * j) + 3).toNatClampNeg) (gx G (Int32.ofNat (6 * j) + 4).toNatClampNeg) (gx G (Int32.ofNat (6 * j) + 5).toNatClampNeg) D hD) KT)
  | 10, _ => exact aw_tableIn (M := (M_law nm tb)) (tgt := 665) dL_law_40 (by decide) (by decide) rfl (by decide) (law_case_10 hG hN hS hi hkc hks (hP 10 (gx G (Int32.ofNat (6 * j) + 1).toNatClampNeg) (gx G (Int32.ofNat (6 * j) + 2).toNatClampNeg) (gx G (Int32.ofNat (6 * j) + 3).toNatClampNeg) (gx G (Int32.ofNat (6 * j) + 4).toNatClampNeg) (gx G (Int32.ofNat (6 * j) + 5).toNatClampNeg) D hD) KT)
  | 11, _ => exact aw_tableIn (M := (M_law nm tb)) (tgt := 769) dL_law_40 (by decide) (by decide) rfl (by decide) (law_case_11 hG hN hS hi hkc hks (hP 11 (gx G (Int32.ofNat (6 * j) + 1).toNatClampNeg) (gx G (Int32.ofNat (6 * j) + 2).toNatClampNeg) (gx G (Int32.ofNat (6 * j) + 3).toNatClampNeg) (gx G (Int32.ofNat (6 * j) + 4).toNatClampNeg) (gx G (Int32.ofNat (6 * j) + 5).toNatClampNeg) D hD) KT)
  | 12, _ => exact aw_tableIn (M := (M_law nm tb)) (tgt := 861) dL_law_40 (by decide) (by decide) rfl (by decide) (law_case_12 hG hN hS hi hkc hks (hP 12 (gx G (Int32.ofNat (6 * j) + 1).toNatClampNeg) (gx G (Int32.ofNat (6 * j) + 2).toNatClampNeg) (gx G (Int32.ofNat (6 * j) + 3).toNatClampNeg) (gx G (Int32.ofNat (6 * j) + 4).toNatClampNeg) (gx G (Int32.ofNat (6 * j) + 5).toNatClampNeg) D hD) KT)
  | 13, _ => exact aw_tableIn (M := (M_law nm tb)) (tgt := 929) dL_law_40 (by decide) (by decide) rfl (by decide) (law_case_13 hG hN hS hi hkc hks (hP 13 (gx G (Int32.ofNat (6 * j) + 1).toNatClampNeg) (gx G (Int32.ofNat (6 * j) + 2).toNatClampNeg) (gx G (Int32.ofNat (6 * j) + 3).toNatClampNeg) (gx G (Int32.ofNat (6 * j) + 4).toNatClampNeg) (gx G (Int32.ofNat (6 * j) + 5).toNatClampNeg) D hD) KT)
  | 14, _ => exact aw_tableIn (M := (M_law nm tb)) (tgt := 997) dL_law_40 (by decide) (by decide) rfl (by decide) (law_case_14 hG hN hS hi hkc hks (hP 14 (gx G (Int32.ofNat (6 * j) + 1).toNatClampNeg) (gx G (Int32.ofNat (6 * j) + 2).toNatClampNeg) (gx G (Int32.ofNat (6 * j) + 3).toNatClampNeg) (gx G (Int32.ofNat (6 * j) + 4).toNatClampNeg) (gx G (Int32.ofNat (6 * j) + 5).toNatClampNeg) D hD) KT)
  | 15, _ => exact aw_tableIn (M := (M_law nm tb)) (tgt := 1077) dL_law_40 (by decide) (by decide) rfl (by decide) (law_case_15 hG hN hS hi hkc hks (hP 15 (gx G (Int32.ofNat (6 * j) + 1).toNatClampNeg) (gx G (Int32.ofNat (6 * j) + 2).toNatClampNeg) (gx G (Int32.ofNat (6 * j) + 3).toNatClampNeg) (gx G (Int32.ofNat (6 * j) + 4).toNatClampNeg) (gx G (Int32.ofNat (6 * j) + 5).toNatClampNeg) D hD) KT)
  | 16, _ => exact aw_tableIn (M := (M_law nm tb)) (tgt := 1145) dL_law_40 (by decide) (by decide) rfl (by decide) (law_case_16 hG hN hS hi hkc hks (hP 16 (gx G (Int32.ofNat (6 * j) + 1).toNatClampNeg) (gx G (Int32.ofNat (6 * j) + 2).toNatClampNeg) (gx G (Int32.ofNat (6 * j) + 3).toNatClampNeg) (gx G (Int32.ofNat (6 * j) + 4).toNatClampNeg) (gx G (Int32.ofNat (6 * j) + 5).toNatClampNeg) D hD) KT)
  | 17, _ => exact aw_tableIn (M := (M_law nm tb)) (tgt := 1213) dL_law_40 (by decide) (by decide) rfl (by decide) (law_case_17 hG hN hS hi hkc hks (hP 17 (gx G (Int32.ofNat (6 * j) + 1).toNatClampNeg) (gx G (Int32.ofNat (6 * j) + 2).toNatClampNeg) (gx G (Int32.ofNat (6 * j) + 3).toNatClampNeg) (gx G (Int32.ofNat (6 * j) + 4).toNatClampNeg) (gx G (Int32.ofNat (6 * j) + 5).toNatClampNeg) D hD) KT)
  | 18, _ => exact aw_tableIn (M := (M_law nm tb)) (tgt := 1226) dL_law_40 (by decide) (by decide) rfl (by decide) (law_case_18 hG hN hS hi hkc hks (hP 18 (gx G (Int32.ofNat (6 * j) + 1).toNatClampNeg) (gx G (Int32.ofNat (6 * j) + 2).toNatClampNeg) (gx G (Int32.ofNat (6 * j) + 3).toNatClampNeg) (gx G (Int32.ofNat (6 * j) + 4).toNatClampNeg) (gx G (Int32.ofNat (6 * j) + 5).toNatClampNeg) D hD) KT)
  | 19, _ => exact aw_tableIn (M := (M_law nm tb)) (tgt := 1294) dL_law_40 (by decide) (by decide) rfl (by decide) (law_case_19 hG hN hS hi hkc hks (hP 19 (gx G (Int32.ofNat (6 * j) + 1).toNatClampNeg) (gx G (Int32.ofNat (6 * j) + 2).toNatClampNeg) (gx G (Int32.ofNat (6 * j) + 3).toNatClampNeg) (gx G (Int32.ofNat (6 * j) + 4).toNatClampNeg) (gx G (Int32.ofNat (6 * j) + 5).toNatClampNeg) D hD) KT)
  | 20, _ => exact aw_tableIn (M := (M_law nm tb)) (tgt := 1350) dL_law_40 (by decide) (by decide) rfl (by decide) (law_case_20 hG hN hS hi hkc hks (hP 20 (gx G (Int32.ofNat (6 * j) + 1).toNatClampNeg) (gx G (Int32.ofNat (6 * j) + 2).toNatClampNeg) (gx G (Int32.ofNat (6 * j) + 3).toNatClampNeg) (gx G (Int32.ofNat (6 * j) + 4).toNatClampNeg) (gx G (Int32.ofNat (6 * j) + 5).toNatClampNeg) D hD) KT)
  | 21, _ => exact aw_tableIn (M := (M_law nm tb)) (tgt := 1442) dL_law_40 (by decide) (by decide) rfl (by decide) (law_case_21 hG hN hS hi hkc hks (hP 21 (gx G (Int32.ofNat (6 * j) + 1).toNatClampNeg) (gx G (Int32.ofNat (6 * j) + 2).toNatClampNeg) (gx G (Int32.ofNat (6 * j) + 3).toNatClampNeg) (gx G (Int32.ofNat (6 * j) + 4).toNatClampNeg) (gx G (Int32.ofNat (6 * j) + 5).toNatClampNeg) D hD) KT)
  | 22, _ => exact aw_tableIn (M := (M_law nm tb)) (tgt := 1455) dL_law_40 (by decide) (by decide) rfl (by decide) (law_case_22 hG hN hS hi hkc hks (hP 22 (gx G (Int32.ofNat (6 * j) + 1).toNatClampNeg) (gx G (Int32.ofNat (6 * j) + 2).toNatClampNeg) (gx G (Int32.ofNat (6 * j) + 3).toNatClampNeg) (gx G (Int32.ofNat (6 * j) + 4).toNatClampNeg) (gx G (Int32.ofNat (6 * j) + 5).toNatClampNeg) D hD) KT)
  | 23, _ => exact aw_tableIn (M := (M_law nm tb)) (tgt := 1511) dL_law_40 (by decide) (by decide) rfl (by decide) (law_case_23 hG hN hS hi hkc hks (hP 23 (gx G (Int32.ofNat (6 * j) + 1).toNatClampNeg) (gx G (Int32.ofNat (6 * j) + 2).toNatClampNeg) (gx G (Int32.ofNat (6 * j) + 3).toNatClampNeg) (gx G (Int32.ofNat (6 * j) + 4).toNatClampNeg) (gx G (Int32.ofNat (6 * j) + 5).toNatClampNeg) D hD) KT)
  | 24, _ => exact aw_tableIn (M := (M_law nm tb)) (tgt := 1579) dL_law_40 (by decide) (by decide) rfl (by decide) (law_case_24 hG hN hS hi hkc hks (hP 24 (gx G (Int32.ofNat (6 * j) + 1).toNatClampNeg) (gx G (Int32.ofNat (6 * j) + 2).toNatClampNeg) (gx G (Int32.ofNat (6 * j) + 3).toNatClampNeg) (gx G (Int32.ofNat (6 * j) + 4).toNatClampNeg) (gx G (Int32.ofNat (6 * j) + 5).toNatClampNeg) D hD) KT)
  | 25, _ => exact aw_tableIn (M := (M_law nm tb)) (tgt := 1659) dL_law_40 (by decide) (by decide) rfl (by decide) (law_case_25 hG hN hS hi hkc hks (hP 25 (gx G (Int32.ofNat (6 * j) + 1).toNatClampNeg) (gx G (Int32.ofNat (6 * j) + 2).toNatClampNeg) (gx G (Int32.ofNat (6 * j) + 3).toNatClampNeg) (gx G (Int32.ofNat (6 * j) + 4).toNatClampNeg) (gx G (Int32.ofNat (6 * j) + 5).toNatClampNeg) D hD) KT)
  | 26, _ => exact aw_tableIn (M := (M_law nm tb)) (tgt := 1670) dL_law_40 (by decide) (by decide) rfl (by decide) (law_case_26 hG hN hS hi hkc hks (hP 26 (gx G (Int32.ofNat (6 * j) + 1).toNatClampNeg) (gx G (Int32.ofNat (6 * j) + 2).toNatClampNeg) (gx G (Int32.ofNat (6 * j) + 3).toNatClampNeg) (gx G (Int32.ofNat (6 * j) + 4).toNatClampNeg) (gx G (Int32.ofNat (6 * j) + 5).toNatClampNeg) D hD) KT)
  | 27, _ => exact aw_tableOut (M := (M_law nm tb)) (tgt := 1683) dL_law_40 (Or.inr (by decide)) (by decide) (aw_wid (by omega) (by omega) (KT D hD))
  | 28, _ => exact aw_tableOut (M := (M_law nm tb)) (tgt := 1683) dL_law_40 (Or.inr (by decide)) (by decide) (aw_wid (by omega) (by omega) (KT D hD))
  | 29, _ => exact aw_tableOut (M := (M_law nm tb)) (tgt := 1683) dL_law_40 (Or.inr (by decide)) (by decide) (aw_wid (by omega) (by omega) (KT D hD))
  | 30, _ => exact aw_tableOut (M := (M_law nm tb)) (tgt := 1683) dL_law_40 (Or.inr (by decide)) (by decide) (aw_wid (by omega) (by omega) (KT D hD))
  | 31, _ => exact aw_tableOut (M := (M_law nm tb)) (tgt := 1683) dL_law_40 (Or.inr (by decide)) (by decide) (aw_wid (by omega) (by omega) (KT D hD))
  | k + 32, h => exact absurd h (by omega)
theorem law_loop {G : aG} (hG : gOK G) (hN : va_Nc "java/lang/IllegalArgumentException" "java/util/NoSuchElementException" (gs G)) {shp : List aSh} (hS : aShp shp) {nm : String} {tb : List (Nat × Nat × Nat × Nat)} {fr : Option Nat} {P : aD → Prop} (hL : gL G ≤ 3072) (hP : ∀ (k : Nat) (v1 v2 v3 v4 v5 : Int32) (D : aD), P D → Ok2 (f_law k v1 v2 v3 v4 v5 D) (fun r D => r = 1 ∧ P D)) : ∀ (n j : Nat) (D : aD), j + n = 512 → P D → AW G (aRm 1024 601024 7293034) (M_law nm tb) fr (133 + 4 * j) (28483 + 24 * j) 23 [some (.ref 30000), some (.ref 0), some (.ref 88), some (.ref 132), some (.int (Int32.ofNat (6 * j))), none, none] [] shp D (fun o _ _ => o = .inl (some (.int 1)))
  | 0, j, D, hj, hD => law_turn hG hN hS hL hP (by omega) (fun h => by omega) hD
  | n + 1, j, D, hj, hD => law_turn hG hN hS hL hP (by omega) (fun _ D hD => law_loop hG hN hS hL hP n (j + 1) D (by omega) hD) hD
def f_law_new (D : aD) : Option aD :=
  aLet (z0 D 0) (fun D => (f_new_X11_0 D).bind (fun D => aLet (z0 D 88) (fun D => (f_new_X12_88 D).bind (fun D => aLet (z0 D 132) (fun D => some D)))))
set_option maxRecDepth 100000 in
set_option maxHeartbeats 4000000 in
theorem law_run {G : aG} (hG : gOK G) (hNe : gNest G) (hN : va_Nc "java/lang/IllegalArgumentException" "java/util/NoSuchElementException" (gs G)) {nm : String} {tb : List (Nat × Nat × Nat × Nat)} {P : aD → Prop} (hL : gL G ≤ 3072) (hP : ∀ (k : Nat) (v1 v2 v3 v4 v5 : Int32) (D : aD), P D → Ok2 (f_law k v1 v2 v3 v4 v5 D) (fun r D => r = 1 ∧ P D)) {D : aD} (h : Ok (f_law_new D) P) : AW G (aRm 1024 601024 7293034) (M_law nm tb) (some 0) 0 0 0 [some (.ref 30000), none, none, none, none, none, none] [] [] D (fun o _ _ => o = .inl (some (.int 1))) := by
  unfold f_law_new at h
  obtain ⟨D1, e1, h⟩ := Ok.let_ h
  refine aw_new (M := (M_law nm tb)) (n := 3) (ci := 11) (N := 14) (C := RX11) (T := TX11) (L := 0) (n0 := 0) (shp' := sh_1) (D' := D1) tyX11 hG.1 rfl rfl rfl (by decide) rfl aU_X11 tyX11_ok (by decide) (by unfold aNF; decide) kw_RL_8.1 kw_RL_8.2.1 kw_RL_8.2.2 (by decide) (by decide) dL_law_0 rfl rfl (kc' := 1) (ks' := 14) rfl rfl e1 ?_
  refine aw_dup (M := (M_law nm tb)) (n := 4) dL_law_3 rfl rfl ?_
  refine aw_init (M := (M_law nm tb)) (n := 7) (L := 1) (n0 := 0) (As := []) (rest := [.ref 0]) ki_RL_72 rfl rfl (c_new_X11_0 hG hNe (h := Ok.bind h)) rfl rfl rfl (by decide) (Nat.le_of_ble_eq_true rfl) (kn := 88) (kn2 := 13714) rfl rfl (by decide) (by decide) dL_law_4 rfl (fun D2 h => ?_)
  refine aw_astore_n (M := (M_law nm tb)) (n := 8) (i := 1) (al' := [some (.ref 30000), some (.ref 0), none, none, none, none, none]) dL_law_7 rfl rfl rfl (Nat.le_of_ble_eq_true rfl) rfl ?_
  obtain ⟨D3, e3, h⟩ := Ok.let_ h
  refine aw_new (M := (M_law nm tb)) (n := 11) (ci := 12) (N := 66) (C := RX12) (T := TX12) (L := 88) (n0 := 0) (shp' := sh_242) (D' := D3) tyX12 hG.1 rfl rfl rfl (by decide) rfl aU_X12 tyX12_ok (by decide) (by unfold aNF; decide) kw_RL_73.1 kw_RL_73.2.1 kw_RL_73.2.2 (by decide) (by decide) dL_law_8 rfl rfl (kc' := 89) (ks' := 13780) rfl rfl e3 ?_
  refine aw_dup (M := (M_law nm tb)) (n := 12) dL_law_11 rfl rfl ?_
  refine aw_init (M := (M_law nm tb)) (n := 15) (L := 89) (n0 := 0) (As := []) (rest := [.ref 88]) ki_RL_75 rfl rfl (c_new_X12_88 hG hNe (h := Ok.bind h)) rfl rfl rfl (by decide) (Nat.le_of_ble_eq_true rfl) (kn := 132) (kn2 := 28482) rfl rfl (by decide) (by decide) dL_law_12 rfl (fun D4 h => ?_)
  refine aw_astore_n (M := (M_law nm tb)) (n := 16) (i := 2) (al' := [some (.ref 30000), some (.ref 0), some (.ref 88), none, none, none, none]) dL_law_15 rfl rfl rfl (Nat.le_of_ble_eq_true rfl) rfl ?_
  refine aw_iconst (M := (M_law nm tb)) (n := 17) (v := 1) dL_law_16 rfl (by decide) ?_
  obtain ⟨D5, e5, h⟩ := Ok.let_ h
  obtain ⟨shp, hS⟩ : ∃ shp, aShp shp := ⟨shpF, rfl⟩
  refine aw_newa (M := (M_law nm tb)) (n := 19) (t := 2) (N := 1) (ty := .long) (L := 132) (n0 := 0) (shp' := shp) (D' := D5) hG.1 rfl rfl rfl (by decide) aw_long rfl rfl (fun _ _ h => h) (at_z2) (by decide) rfl (by decide) (by decide) (by decide) dL_law_17 rfl (Eq.trans hS rfl) (kc' := 133) (ks' := 28483) rfl rfl e5 ?_
  refine aw_astore_n (M := (M_law nm tb)) (n := 20) (i := 3) (al' := [some (.ref 30000), some (.ref 0), some (.ref 88), some (.ref 132), none, none, none]) dL_law_19 rfl rfl rfl (Nat.le_of_ble_eq_true rfl) rfl ?_
  refine aw_iconst (M := (M_law nm tb)) (n := 21) (v := 0) dL_law_20 rfl (by decide) ?_
  refine aw_istore (M := (M_law nm tb)) (n := 23) (y := 0) (al' := [some (.ref 30000), some (.ref 0), some (.ref 88), some (.ref 132), some (.int 0), none, none]) dL_law_21 rfl rfl (Nat.le_of_ble_eq_true rfl) rfl ?_
  exact law_loop hG hN hS hL hP 512 0 D5 rfl (Ok.dn h :)
/-- from the entry to the end, whatever the pure side is shown to do -/
theorem whole_of {P : aD → Prop} (hnew : Ok (f_law_new (fun _ _ => 0, fun _ _ => 0)) P) (hP : ∀ (k : Nat) (v1 v2 v3 v4 v5 : Int32) (D : aD), P D → Ok2 (f_law k v1 v2 v3 v4 v5 D) (fun r D => r = 1 ∧ P D)) {p : Program} {e : Env} {s : State} {m : MethodId} {below : List Frame} {meth : Method} {c : Code} (l : Launch) (hflags : l.flags = flags0) {b L : Nat} {xs : Nat → Int32} (hL : L ≤ 3072) (C0 : lw_At p s m meth c b L xs) : W p l e room_1 s m #[Value.ref b] below meth c s.heap [] 0 0 (lw_Z below #[Value.ref b] s) (entryFrame m ([Value.ref b] : List Value).toArray 7) := by
  obtain ⟨hexec, hcode, hret, hml, hown, hts, hX, hbl, hlk, hg⟩ := C0
  obtain ⟨G, g1, g2, g3, g4, g5, hG, hNe, hN⟩ := eG hflags hts hX hbl hg
  subst g1; subst g2; subst g3; subst g4; subst g5
  have K := law_run hG hNe hN (nm := meth.name) (tb := c.exceptionTable.toList.map (fun h => (h.startPc, h.endPc, h.handlerPc, h.catchType))) hL hP hnew
  refine law_end (G := G) (Q := fun o _ _ => o = .inl (some (.int 1))) (R' := aRm 1024 601024 7293034) (by decide) (by decide) (by decide) (by decide) rfl (fun v shp D h => (Sum.inl.inj h :)) (fun E shp D h => by cases h) ?_
  rw [lg_entry_eq]
  refine K p e (gs G) m _ below meth c (gs G).heap [] _ ⟨hexec, hcode, hml, hown, fun w hw => hts w (aU_tbl w hw), hret, hlk, State.WarmedH.refl _, Nat.le_refl _, fun _ _ => rfl, rfl, rfl, fun n0 h0 => (by cases h0; rfl)⟩ ⟨by decide, fun k q hq => (by simp [aW] at hq), fun _ _ => rfl, Nat.le_refl _⟩ va_S.rf ?_
  have h9 := lv_entry [Value.ref (gb G)] (n := 7) (Nat.le_of_ble_eq_true rfl)
  refine ⟨h9.1, h9.2.1, fun q hq => ?_⟩
  obtain ⟨⟨j, w⟩, hj, rfl⟩ := List.mem_map.mp hq
  refine h9.2.2 _ ?_
  have h1 := aL_mem.mp hj
  match j, h1 with
  | 0, h1 =>
    cases h1
    exact List.mem_cons_self
  | j + 1, h1 =>
    rw [List.getElem?_cons_succ] at h1
    have := List.mem_of_getElem? h1
    simp at this
end LWE
