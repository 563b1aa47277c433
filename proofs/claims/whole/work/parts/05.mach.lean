/-! THE ABSTRACT MACHINE: a state is a list of shapes (objects and rows, by number) and the numbers that lie in them; AW says: from this frame the method comes to its end with Q -/
abbrev aM : Type := MethodName × ByteArray × Nat × Option FieldType × List (Nat × Nat × Nat × Nat)
def aMn (M : aM) : MethodName := M.1
def aMb (M : aM) : ByteArray := M.2.1
def aMl (M : aM) : Nat := M.2.2.1
def aMr (M : aM) : Option FieldType := M.2.2.2.1
def aMt (M : aM) : List (Nat × Nat × Nat × Nat) := M.2.2.2.2
def aMo (M : aM) : String := M.1.cls
abbrev aFS : Type := Option (Option Nat)
abbrev aSh : Type := (Nat × Nat × List (Option Nat)) ⊕ (Nat × List aFS)
abbrev aD : Type := (Nat → Nat → Int32) × (Nat → Nat → Int64)
abbrev aR : Type := Option Value ⊕ String
abbrev aQ : Type := aR → List aSh → aD → Prop
abbrev aG : Type := Launch × State × (Nat → ClassId) × va_G × (Nat → Nat) × (Nat → Nat) × Nat × Nat × (Nat → Int32)
def gl (G : aG) : Launch := G.1
def gs (G : aG) : State := G.2.1
def gcy (G : aG) : Nat → ClassId := G.2.2.1
def gD (G : aG) : va_G := G.2.2.2.1
def gK (G : aG) : Nat → Nat := G.2.2.2.2.1
def gV (G : aG) : Nat → Nat := G.2.2.2.2.2.1
def gb (G : aG) : Nat := G.2.2.2.2.2.2.1
def gL (G : aG) : Nat := G.2.2.2.2.2.2.2.1
def gx (G : aG) : Nat → Int32 := G.2.2.2.2.2.2.2.2
def glo (G : aG) : Nat := (gs G).heap.size
def gAd (G : aG) (k : Nat) : Nat := if k < 10000 then glo G + k else if k < 20000 then gK G (k - 10000) else if k < 30000 then gV G (k - 20000) else if k < 40000 then gb G else k - 40000
def aA (G : aG) : Nat → Prop := fun q => glo G ≤ q
def av (G : aG) : Value → Value
  | .ref k => .ref (gAd G k)
  | v => v
def aF (G : aG) (D : aD) (k j : Nat) : aFS → Value
  | none => .int (D.1 k j)
  | some r => va_rf (r.map (gAd G))
def aC (G : aG) (D : aD) (k : Nat) : aSh → va_E
  | .inl a => .inl (gcy G a.1, a.2.1, if a.1 = 2 then .inr (.inl (D.2 k)) else if a.1 < 4 then .inl (D.1 k) else .inr (.inr (.inr (.inr (fun i => (a.2.2.getD i none).map (gAd G))))))
  | .inr o => .inr (o.1, o.2.mapIdx (fun j f => aF G D k j f))
def aW (G : aG) (shp : List aSh) (D : aD) : va_W := shp.mapIdx (fun k c => (gAd G k, aC G D k c))
def gI (D : aD) (k j : Nat) : Int32 := D.1 k j
def gJ (D : aD) (k j : Nat) : Int64 := D.2 k j
def pI (D : aD) (k j : Nat) (x : Int32) : aD := (fun k' => if k' = k then upd (D.1 k) j x else D.1 k', D.2)
def pJ (D : aD) (k j : Nat) (x : Int64) : aD := (D.1, fun k' => if k' = k then vp_updL (D.2 k) j x else D.2 k')
theorem aW_get {G : aG} {shp : List aSh} {D : aD} {k : Nat} {c : aSh} (h : shp[k]? = some c) : (aW G shp D)[k]? = some (gAd G k, aC G D k c) := by
  simp [aW, List.getElem?_mapIdx, h]
theorem aW_at {G : aG} {shp : List aSh} {D : aD} {k : Nat} {q : Nat × va_E} (h : (aW G shp D)[k]? = some q) : k < shp.length ∧ q.1 = gAd G k := by
  rw [aW, List.getElem?_mapIdx] at h
  cases hc : shp[k]? with
  | none => rw [hc] at h; cases h
  | some c => rw [hc] at h; cases h; exact ⟨(List.getElem?_eq_some_iff.mp hc).1, rfl⟩
theorem aW_len {G : aG} {shp : List aSh} {D : aD} : (aW G shp D).length = shp.length := by simp [aW]
theorem gAd_lo {G : aG} {k : Nat} (h : k < 10000) : gAd G k = glo G + k := by rw [gAd, if_pos h]
theorem aW_D {G : aG} {shp : List aSh} {D : aD} (h : shp.length ≤ 10000) : va_D (aA G) (aW G shp D) := by
  refine ⟨fun i j p q hp hq e => ?_, fun k q hq => ?_⟩
  · obtain ⟨h1, h2⟩ := aW_at hp
    obtain ⟨h3, h4⟩ := aW_at hq
    rw [h2, h4, gAd_lo (by omega), gAd_lo (by omega)] at e
    omega
  · obtain ⟨h1, h2⟩ := aW_at hq
    rw [h2, gAd_lo (by omega)]
    exact Nat.le_add_right _ _
theorem aC_neI {G : aG} {D : aD} {k i j : Nat} {x : Int32} (h : i ≠ k) (c : aSh) : aC G (pI D k j x) i c = aC G D i c := by
  cases c with
  | inl a => simp [aC, pI, h]
  | inr o =>
    simp only [aC]
    have e : (fun (j' : Nat) (f : aFS) => aF G (pI D k j x) i j' f) = fun (j' : Nat) (f : aFS) => aF G D i j' f := by
      funext j' f
      cases f <;> simp [aF, pI, h]
    rw [e]
theorem aC_neJ {G : aG} {D : aD} {k i j : Nat} {x : Int64} (h : i ≠ k) (c : aSh) : aC G (pJ D k j x) i c = aC G D i c := by
  cases c with
  | inl a => simp [aC, pJ, h]
  | inr o =>
    simp only [aC]
    have e : (fun (j' : Nat) (f : aFS) => aF G (pJ D k j x) i j' f) = fun (j' : Nat) (f : aFS) => aF G D i j' f := by
      funext j' f
      cases f <;> simp [aF, pJ]
    rw [e]
theorem aW_set {G : aG} {shp shp' : List aSh} {D D' : aD} {k : Nat} {c' : aSh} {e : va_E} (hk : k < shp.length) (h1 : shp' = shp.set k c') (h2 : aC G D' k c' = e) (h3 : ∀ (i : Nat) (c : aSh), i ≠ k → aC G D' i c = aC G D i c) : (aW G shp D).set k (gAd G k, e) = aW G shp' D' := by
  subst h1; subst h2
  refine List.ext_getElem? (fun i => ?_)
  rw [List.getElem?_set, aW_len]
  by_cases hi : k = i
  · subst hi
    rw [if_pos rfl, if_pos hk]
    exact (aW_get (by rw [List.getElem?_set, if_pos rfl, if_pos hk])).symm
  · rw [if_neg hi]
    simp only [aW, List.getElem?_mapIdx, List.getElem?_set, if_neg hi]
    cases shp[i]? with
    | none => rfl
    | some c => simp only [Option.map_some]; rw [h3 i c (fun z => hi z.symm)]
theorem aSet_same {shp : List aSh} {k : Nat} {c : aSh} (h : shp[k]? = some c) : shp = shp.set k c := by
  refine List.ext_getElem? (fun i => ?_)
  rw [List.getElem?_set]
  by_cases hi : k = i
  · subst hi
    rw [if_pos rfl, if_pos (List.getElem?_eq_some_iff.mp h).1, h]
  · rw [if_neg hi]
theorem aW_setA {G : aG} {shp : List aSh} {D : aD} {k t n j : Nat} {rs : List (Option Nat)} {x : Int32} (h : shp[k]? = some (.inl (t, n, rs))) (ht : ¬ t = 2) (h4 : t < 4) : (aW G shp D).set k (gAd G k, .inl (gcy G t, n, .inl (upd (D.1 k) j x))) = aW G shp (pI D k j x) :=
  aW_set (List.getElem?_eq_some_iff.mp h).1 (aSet_same h) (by simp [aC, ht, h4, pI]) (fun i c hi => aC_neI hi c)
theorem aW_setL {G : aG} {shp : List aSh} {D : aD} {k n j : Nat} {rs : List (Option Nat)} {x : Int64} (h : shp[k]? = some (.inl (2, n, rs))) : (aW G shp D).set k (gAd G k, .inl (gcy G 2, n, .inr (.inl (vp_updL (D.2 k) j x)))) = aW G shp (pJ D k j x) :=
  aW_set (List.getElem?_eq_some_iff.mp h).1 (aSet_same h) (by simp [aC, pJ]) (fun i c hi => aC_neJ hi c)
theorem aW_setF {G : aG} {shp : List aSh} {D : aD} {k ci j : Nat} {fs : List aFS} {x : Int32} (h : shp[k]? = some (.inr (ci, fs))) (hj : fs[j]? = some none) : (aW G shp D).set k (gAd G k, .inr (ci, (fs.mapIdx (fun j f => aF G D k j f)).set j (.int x))) = aW G shp (pI D k j x) := by
  refine aW_set (List.getElem?_eq_some_iff.mp h).1 (aSet_same h) ?_ (fun i c hi => aC_neI hi c)
  simp only [aC]
  refine congrArg (fun z => (Sum.inr (ci, z) : va_E)) (List.ext_getElem? (fun i => ?_))
  have hl := (List.getElem?_eq_some_iff.mp hj).1
  rw [List.getElem?_set, List.getElem?_mapIdx, List.length_mapIdx, List.getElem?_mapIdx]
  by_cases hi : j = i
  · subst hi
    rw [if_pos rfl, if_pos hl, hj]
    simp [aF, pI, upd]
  · rw [if_neg hi]
    cases hf : fs[i]? with
    | none => rfl
    | some f =>
      have hi' : ¬ i = j := fun z => hi z.symm
      cases f <;> simp [aF, pI, upd, hi']
theorem aW_setR {G : aG} {shp : List aSh} {D : aD} {k ci j r : Nat} {fs : List aFS} (h : shp[k]? = some (.inr (ci, fs))) (hj : j < fs.length) : (aW G shp D).set k (gAd G k, .inr (ci, (fs.mapIdx (fun j f => aF G D k j f)).set j (.ref (gAd G r)))) = aW G (shp.set k (.inr (ci, fs.set j (some (some r))))) D := by
  refine aW_set (List.getElem?_eq_some_iff.mp h).1 rfl ?_ (fun i c hi => rfl)
  simp only [aC]
  refine congrArg (fun z => (Sum.inr (ci, z) : va_E)) (List.ext_getElem? (fun i => ?_))
  rw [List.getElem?_set, List.getElem?_mapIdx, List.length_mapIdx, List.getElem?_mapIdx, List.getElem?_set]
  by_cases hi : j = i
  · subst hi
    rw [if_pos rfl, if_pos hj, if_pos rfl, if_pos hj]
    rfl
  · rw [if_neg hi, if_neg hi]
theorem aW_setQ {G : aG} {shp : List aSh} {D : aD} {k t n j r : Nat} {rs : List (Option Nat)} (h : shp[k]? = some (.inl (t, n, rs))) (h4 : 4 ≤ t) (hj : j < rs.length) : (aW G shp D).set k (gAd G k, .inl (gcy G t, n, .inr (.inr (.inr (.inr (va_up (fun i => (rs.getD i none).map (gAd G)) j (some (gAd G r)))))))) = aW G (shp.set k (.inl (t, n, rs.set j (some r)))) D := by
  refine aW_set (List.getElem?_eq_some_iff.mp h).1 rfl ?_ (fun i c hi => rfl)
  have h2 : ¬ t = 2 := by omega
  have h3 : ¬ t < 4 := by omega
  simp only [aC, if_neg h2, if_neg h3]
  have e : (fun i => ((rs.set j (some r)).getD i none).map (gAd G)) = va_up (fun i => (rs.getD i none).map (gAd G)) j (some (gAd G r)) := by
    funext i
    simp only [va_up, List.getD_eq_getElem?_getD, List.getElem?_set]
    by_cases hi : i = j
    · subst hi; simp [hj]
    · rw [if_neg hi, if_neg (fun z => hi z.symm)]
  rw [e]
def aH (G : aG) (shp : List aSh) (D : aD) (H : Heap) : Prop := shp.length ≤ 10000 ∧ va_P (gD G) vwCl (aW G shp D) H ∧ (∀ q : Nat, q < glo G → H[q]? = (gs G).heap[q]?) ∧ glo G ≤ H.size
def gTy (G : aG) : List (ClassId × FieldType) := [(gcy G 0, .byte), (gcy G 1, .int), (gcy G 2, .long), (gcy G 3, .boolean), (gcy G 4, .object RX8), (gcy G 5, .object "java/lang/String")]
def aFix (G : aG) (fr : Option Nat) (p : Program) (s : State) (m : MethodId) (args : Array Value) (meth : Method) (c : Code) (M : aM) : Prop :=
  p.tables.exec = Jvm.exec ∧ c.code = aMb M ∧ c.maxLocals = aMl M ∧ s.vm.findClass (aMo M) = some m.cls ∧ (∀ w ∈ aU, w.before args s = true) ∧ meth.sig.returnType = aMr M ∧ meth.locks = false ∧ (gs G).WarmedH s.vm ∧ glo G ≤ s.heap.size ∧ (∀ q : Nat, q < glo G → s.heap[q]? = (gs G).heap[q]?) ∧ c.exceptionTable.toList.map (fun h => (h.startPc, h.endPc, h.handlerPc, h.catchType)) = aMt M ∧ meth.name = (aMn M).name ∧ ∀ n0 : Nat, fr = some n0 → s.heap.size = glo G + n0
def aL (al : List (Option Value)) : List (Nat × Value) := (al.mapIdx (fun i o => o.map (fun v => (i, v)))).filterMap id
theorem aL_mem {al : List (Option Value)} {i : Nat} {v : Value} : (i, v) ∈ aL al ↔ al[i]? = some (some v) := by
  rw [aL, List.mem_filterMap]
  constructor
  · rintro ⟨o, ho, e⟩
    obtain ⟨j, hj⟩ := List.mem_iff_getElem?.mp ho
    rw [List.getElem?_mapIdx] at hj
    cases e
    cases hq : al[j]? with
    | none => rw [hq] at hj; cases hj
    | some z =>
      rw [hq] at hj
      cases z with
      | none => cases hj
      | some w => cases hj; exact hq
  · intro h
    refine ⟨some (i, v), List.mem_iff_getElem?.mpr ⟨i, ?_⟩, rfl⟩
    rw [List.getElem?_mapIdx, h]
    rfl
def aLs (G : aG) (ls : Array Slot) (n : Nat) (al : List (Option Value)) : Prop := lv_has ls n ((aL al).map (fun q => (q.1, av G q.2)))
theorem aLs_at {G : aG} {ls : Array Slot} {n i : Nat} {al : List (Option Value)} {v : Value} (h : aLs G ls n al) (hi : al[i]? = some (some v)) : ls[i]? = some (.val (av G v)) :=
  h.2.2 (i, av G v) (List.mem_map.mpr ⟨(i, v), aL_mem.mpr hi, rfl⟩)
def aCl (al : List (Option Value)) (i : Nat) : List (Option Value) := match i with
  | 0 => al
  | j + 1 => match al[j]? with
    | some (some (.long _)) => al.set j none
    | some (some (.double _)) => al.set j none
    | _ => al
def aSt (al : List (Option Value)) (i : Nat) (v : Value) : List (Option Value) := (aCl al i).set i (some v)
def aSl (al : List (Option Value)) (i : Nat) (v : Value) : List (Option Value) := ((aCl al i).set i (some v)).set (i + 1) none
theorem av_cat (G : aG) (v : Value) : (av G v).category = v.category := by cases v <;> rfl
theorem aCl_at {al : List (Option Value)} {i j : Nat} {v : Value} (h : (aCl al i)[j]? = some (some v)) : al[j]? = some (some v) ∧ ¬ (j + 1 = i ∧ v.category = 2) := by
  cases i with
  | zero => exact ⟨h, fun z => by omega⟩
  | succ k =>
    have key : ∀ o : Option (Option Value), al[k]? = o → (aCl al (k + 1))[j]? = some (some v) → al[j]? = some (some v) ∧ ¬ (j + 1 = k + 1 ∧ v.category = 2) := by
      intro o ho hh
      have hset : ∀ z : List (Option Value), z = al.set k none → z[j]? = some (some v) → al[j]? = some (some v) ∧ ¬ (j + 1 = k + 1 ∧ v.category = 2) := by
        intro z hz h9
        rw [hz, List.getElem?_set] at h9
        by_cases e : k = j
        · rw [if_pos e] at h9
          split at h9
          · cases h9
          · cases h9
        · rw [if_neg e] at h9
          exact ⟨h9, fun q => by omega⟩
      have hid : aCl al (k + 1) = al → (∀ w, al[k]? = some (some w) → w.category ≠ 2) → al[j]? = some (some v) ∧ ¬ (j + 1 = k + 1 ∧ v.category = 2) := by
        intro e hw
        rw [e] at hh
        refine ⟨hh, fun q => ?_⟩
        have e2 : j = k := by omega
        rw [e2] at hh
        exact hw v hh q.2
      match o, ho with
      | none, ho => exact hid (by simp [aCl, ho]) (fun w h9 => by rw [ho] at h9; cases h9)
      | some none, ho => exact hid (by simp [aCl, ho]) (fun w h9 => by rw [ho] at h9; cases h9)
      | some (some (.int _)), ho => exact hid (by simp [aCl, ho]) (fun w h9 => by rw [ho] at h9; cases h9; simp [Value.category])
      | some (some (.float _)), ho => exact hid (by simp [aCl, ho]) (fun w h9 => by rw [ho] at h9; cases h9; simp [Value.category])
      | some (some (.long _)), ho => exact hset _ (by simp [aCl, ho]) hh
      | some (some (.double _)), ho => exact hset _ (by simp [aCl, ho]) hh
      | some (some (.ref _)), ho => exact hid (by simp [aCl, ho]) (fun w h9 => by rw [ho] at h9; cases h9; simp [Value.category])
      | some (some .null), ho => exact hid (by simp [aCl, ho]) (fun w h9 => by rw [ho] at h9; cases h9; simp [Value.category])
      | some (some (.retAddr _)), ho => exact hid (by simp [aCl, ho]) (fun w h9 => by rw [ho] at h9; cases h9; simp [Value.category])
    exact key _ rfl h
theorem aLs_st {G : aG} {ls : Array Slot} {n i : Nat} {al : List (Option Value)} {v : Value} (h : lv_has ls n ((i, av G v) :: ((aL al).map (fun q => (q.1, av G q.2))).filter (fun q => !(q.1 == i) && !(q.1 + 1 == i && q.2.category == 2)))) : aLs G ls n (aSt al i v) := by
  refine ⟨h.1, h.2.1, fun q hq => ?_⟩
  obtain ⟨⟨j, w⟩, hj, rfl⟩ := List.mem_map.mp hq
  have h1 := aL_mem.mp hj
  rw [aSt, List.getElem?_set] at h1
  by_cases e : i = j
  · subst e
    rw [if_pos rfl] at h1
    split at h1
    · cases h1
      exact h.2.2 _ List.mem_cons_self
    · cases h1
  · rw [if_neg e] at h1
    obtain ⟨h2, h3⟩ := aCl_at h1
    refine h.2.2 _ (List.mem_cons_of_mem _ (List.mem_filter.mpr ⟨List.mem_map.mpr ⟨(j, w), aL_mem.mpr h2, rfl⟩, ?_⟩))
    have e' : ¬ j = i := fun z => e z.symm
    simp only [av_cat]
    by_cases e3 : j + 1 = i
    · have h5 : ¬ w.category = 2 := fun z => h3 ⟨e3, z⟩
      simp [e', h5]
    · simp [e', e3]
theorem aLs_sl {G : aG} {ls : Array Slot} {n i : Nat} {al : List (Option Value)} {v : Value} (h : lv_has ls n ((i, av G v) :: ((aL al).map (fun q => (q.1, av G q.2))).filter (fun q => !(q.1 == i) && (!(q.1 == i + 1) && !(q.1 + 1 == i && q.2.category == 2))))) : aLs G ls n (aSl al i v) := by
  refine ⟨h.1, h.2.1, fun q hq => ?_⟩
  obtain ⟨⟨j, w⟩, hj, rfl⟩ := List.mem_map.mp hq
  have h1 := aL_mem.mp hj
  rw [aSl, List.getElem?_set] at h1
  by_cases e0 : i + 1 = j
  · rw [if_pos e0] at h1
    split at h1
    · cases h1
    · cases h1
  · rw [if_neg e0, List.getElem?_set] at h1
    by_cases e : i = j
    · subst e
      rw [if_pos rfl] at h1
      split at h1
      · cases h1
        exact h.2.2 _ List.mem_cons_self
      · cases h1
    · rw [if_neg e] at h1
      obtain ⟨h2, h3⟩ := aCl_at h1
      refine h.2.2 _ (List.mem_cons_of_mem _ (List.mem_filter.mpr ⟨List.mem_map.mpr ⟨(j, w), aL_mem.mpr h2, rfl⟩, ?_⟩))
      have e' : ¬ j = i := fun z => e z.symm
      have e'' : ¬ j = i + 1 := fun z => e0 z.symm
      simp only [av_cat]
      by_cases e3 : j + 1 = i
      · have h5 : ¬ w.category = 2 := fun z => h3 ⟨e3, z⟩
        simp [e', e'', h5]
      · simp [e', e'', e3]
theorem aLs_le {G : aG} {ls : Array Slot} {n : Nat} {al al' : List (Option Value)} (h : aLs G ls n al) (hl : ∀ (i : Nat) (v : Value), al'[i]? = some (some v) → al[i]? = some (some v)) : aLs G ls n al' := by
  refine ⟨h.1, h.2.1, fun q hq => ?_⟩
  obtain ⟨⟨j, w⟩, hj, rfl⟩ := List.mem_map.mp hq
  exact h.2.2 _ (List.mem_map.mpr ⟨(j, w), aL_mem.mpr (hl j w (aL_mem.mp hj)), rfl⟩)
