section AWC
variable {G : aG} {R : Room} {M : aM} {fr : Option Nat} {kc ks pc n : Nat} {al : List (Option Value)} {st : List Value} {shp : List aSh} {D : aD} {Q : aQ}
def pA (D : aD) (k : Nat) (g : Nat → Int32) : aD := (fun k' => if k' = k then g else D.1 k', D.2)
theorem aC_neA {D : aD} {k i : Nat} {g : Nat → Int32} (h : i ≠ k) (c : aSh) : aC G (pA D k g) i c = aC G D i c := by
  cases c with
  | inl a => simp [aC, pA, h]
  | inr o =>
    simp only [aC]
    have e : (fun (j' : Nat) (f : aFS) => aF G (pA D k g) i j' f) = fun (j' : Nat) (f : aFS) => aF G D i j' f := by
      funext j' f
      cases f <;> simp [aF, pA, h]
    rw [e]
theorem aW_setG {k t m9 : Nat} {rs : List (Option Nat)} {g : Nat → Int32} (h : shp[k]? = some (.inl (t, m9, rs))) (ht : ¬ t = 2) (h4 : t < 4) : (aW G shp D).set k (gAd G k, .inl (gcy G t, m9, .inl g)) = aW G shp (pA D k g) :=
  aW_set (List.getElem?_eq_some_iff.mp h).1 (aSet_same h) (by simp [aC, ht, h4, pA]) (fun i c hi => aC_neA hi c)
theorem goodAll {ws : List Cond} (h : ∀ w ∈ ws, w ∈ aU) : GoodIn aU ws := fun w hw => ⟨h w hw, good_of_word (aU_good w (h w hw))⟩
def aNH (s : String) : Prop := s ≠ "java/lang/invoke/MethodHandle" ∧ s ≠ "java/lang/invoke/VarHandle"
theorem aWs_in {M' : aM} (hc : Cond.code (aMn M') (aMb M') (aMl M') (aMr M') ∈ aU) : ∀ w ∈ aWs M', w ∈ aU := fun w hw => (List.mem_cons.mp hw).elim (fun e => by rw [e]; exact hc) id
theorem aw_of_run {p : Program} {e : Env} {s : State} {m : MethodId} {args a : Array Value} {below : List Frame} {meth : Method} {c : Code} {H : Heap} {locs : List Loc} {ls : Array Slot} {mc' ms' : Nat} {rest st0 : List Value} {Q' : aQ} {Z : State → Prop}
    (hr : vx_Run p (gl G) e R s m args below meth c H locs kc ks mc' ms' (F0 m pc ls st0) rest (aQc G Q' a) (aXc G Q') (aA G)) (hS : va_S (aA G) s.heap H locs)
    (kk : ∀ (v : Option Value) (shp' : List aSh) (D' : aD) (H1 : Heap) (locs1 : List Loc), Q' (.inl v) shp' D' → aH G shp' D' H1 → va_S (aA G) s.heap H1 locs1 → W p (gl G) e R s m args below meth c H1 locs1 (kc + mc') (ks + ms') Z (F0 m (pc + 3) ls ((v.map (av G)).toList ++ rest)))
    (kx : ∀ (E : String) (q : Nat) (ce : Cell) (shp' : List aSh) (D' : aD) (H1 : Heap) (locs1 : List Loc), Q' (.inr E) shp' D' → aH G shp' D' H1 → va_S (aA G) s.heap H1 locs1 → H1[q]? = some ce → ce.vm = .none → s.vm.findClass E = some ce.cls → vx_W p (gl G) e R s m args below meth c H1 locs1 (kc + mc') (ks + ms') Z (F0 m pc ls rest) q) :
    W p (gl G) e R s m args below meth c H locs kc ks Z (F0 m pc ls st0) := by
  intro T hT X
  rcases hr T hT X with ⟨v, st₀, t, T', L, h0, X', hL, e1, e2, ⟨v9, shp', D', ho, hQ, hH1, hF⟩, st⟩ | ⟨q, st₀, t, T', L, E, ce, h0, X', hL, e1, e2, ⟨shp', D', hQ, hH1, hF⟩, hce, hcv, hcl, st⟩
  · cases ho
    obtain ⟨k1, k2, k3⟩ := vx_keep h0 e1 hS (fun q _ h => h) (fun q h => h) hL hF
    obtain ⟨t2, a1, b1⟩ := kk v9 shp' D' T'.heap (locs ++ L) hQ (by rw [e1]; exact hH1) k3 T' rfl X'
    exact ⟨t2, st t2 a1, b1⟩
  · obtain ⟨k1, k2, k3⟩ := vx_keep h0 e1 hS (fun q _ h => h) (fun q h => h) hL hF
    obtain ⟨t2, a1, b1⟩ := kx E q ce shp' D' T'.heap (locs ++ L) hQ (by rw [e1]; exact hH1) k3 (by rw [e1]; exact hce) hcv hcl T' rfl X'
    exact ⟨t2, st.trans a1, b1⟩
theorem aTab0 {p : Program} {s : State} {m : MethodId} {args : Array Value} {meth : Method} {c : Code} (F : aFix G fr p s m args meth c M) (hz : aMt M = []) : ∀ x ∈ c.exceptionTable.toList, False := by
  intro x hx
  have h := F.2.2.2.2.2.2.2.2.2.2.1
  rw [hz, List.map_eq_nil_iff] at h
  rw [h] at hx
  cases hx
theorem aw_thrown {p : Program} {e : Env} {s : State} {m : MethodId} {args : Array Value} {below : List Frame} {meth : Method} {c : Code} {H : Heap} {locs : List Loc} {ls : Array Slot} {rest : List Value} {E : String} {q : Nat} {ce : Cell}
    (F : aFix G fr p s m args meth c M) (hz : aMt M = []) (hQ : Q (.inr E) shp D) (hH : aH G shp D H) (hS : va_S (aA G) s.heap H locs) (hce : H[q]? = some ce) (hv : ce.vm = .none) (hcl : s.vm.findClass E = some ce.cls) (hkc : kc ≤ R.cells) (hks : ks ≤ R.slots) :
    vx_W p (gl G) e R s m args below meth c H locs kc ks (vx_MQ below (aQc G Q) (aXc G Q) args s R.cells R.slots (aA G)) (F0 m pc ls rest) q :=
  vx_out (fun x hx => (aTab0 F hz x hx).elim) F.2.2.2.2.2.2.1 hce hv hcl (fun t ht hW => ⟨shp, D, hQ, by rw [ht]; exact hH, hS.F ht⟩) hS.2.2 hkc hks
def AX (G : aG) (R : Room) (M : aM) (fr : Option Nat) (kc ks pc : Nat) (al : List (Option Value)) (st : List Value) (shp : List aSh) (D : aD) (Q : aQ) (E : String) : Prop :=
  ∀ (p : Program) (e : Env) (s : State) (m : MethodId) (args : Array Value) (below : List Frame) (meth : Method) (c : Code) (H : Heap) (locs : List Loc) (ls : Array Slot), aFix G fr p s m args meth c M → aH G shp D H → va_S (aA G) s.heap H locs → aLs G ls (aMl M) al →
    ∀ (q : Nat) (ce : Cell), H[q]? = some ce → ce.vm = .none → s.vm.findClass E = some ce.cls → vx_W p (gl G) e R s m args below meth c H locs kc ks (vx_MQ below (aQc G Q) (aXc G Q) args s R.cells R.slots (aA G)) (F0 m pc ls (st.map (av G))) q
theorem AX.out {E : String} (hz : aMt M = []) (hQ : Q (.inr E) shp D) (hkc : kc ≤ R.cells) (hks : ks ≤ R.slots) : AX G R M fr kc ks pc al st shp D Q E := by
  intro p e s m args below meth c H locs ls F hH hS hl q ce hce hv hcl
  exact aw_thrown F hz hQ hH hS hce hv hcl hkc hks
theorem AX.or {E : String} {Q' : aQ} {shp' : List aSh} {D' : aD} (hz : aMt M = [] ∨ ∀ (E : String) (shp' : List aSh) (D' : aD), ¬ Q' (.inr E) shp' D') (hq : Q' (.inr E) shp' D') (KX : Q (.inr E) shp' D') (hkc : kc ≤ R.cells) (hks : ks ≤ R.slots) : AX G R M fr kc ks pc al st shp' D' Q E :=
  hz.elim (fun h => AX.out h KX hkc hks) (fun h => (h E shp' D' hq).elim)
def aLkV (own : String) (idx ci : Nat) (M' : aM) : Prop := Cond.methodLink own idx (aMn M') ∈ aU ∧ Cond.instanceMethod (aMn M') ∈ aU ∧ Cond.selects (aMo M') (aMn M') (aMn M') ∈ aU ∧ Cond.initialized (aMo M') ∈ aU ∧ Cond.code (aMn M') (aMb M') (aMl M') (aMr M') ∈ aU ∧ (∃ T N, vwCl[ci]? = some (aMo M', T, N)) ∧ aNH (aMo M')
def aLkS (own : String) (idx : Nat) (M' : aM) : Prop := Cond.methodLink own idx (aMn M') ∈ aU ∧ Cond.static (aMn M') ∈ aU ∧ Cond.initialized (aMo M') ∈ aU ∧ Cond.code (aMn M') (aMb M') (aMl M') (aMr M') ∈ aU ∧ aNH (aMo M')
def aFr (fr fr' : Option Nat) (kc : Nat) (shp : List aSh) : Prop := fr' = none ∨ (fr' = some shp.length ∧ ∃ n0, fr = some n0 ∧ n0 + kc = shp.length)
theorem aFr_at {p : Program} {l : Launch} {e : Env} {s T : State} {m : MethodId} {args : Array Value} {below : List Frame} {meth : Method} {c : Code} {locs : List Loc} {fr' : Option Nat} (h : aFr fr fr' kc shp) (hs : ∀ n0 : Nat, fr = some n0 → s.heap.size = glo G + n0) (X : Stand p l e R s m args below meth c T locs kc ks) (hH : aH G shp D T.heap) : ∀ n0 : Nat, fr' = some n0 → T.heap.size = glo G + n0 := by
  intro n0 h0
  rcases h with h | ⟨h1, n1, h2, h3⟩
  · rw [h] at h0; cases h0
  · rw [h1] at h0
    cases h0
    exact aH_size X hH (hs n1 h2) h3
theorem aPc_blind {args0 : List Value} {fr' : Option Nat} : FrameBlind (aPc G args0 fr' shp D) := fun a U g mk q => q
theorem map_rev (As rest : List Value) (k : Nat) : (As.reverse ++ .ref k :: rest).map (av G) = (As.map (av G)).reverse ++ .ref (gAd G k) :: rest.map (av G) := by
  rw [List.map_append, List.map_reverse]
  rfl
theorem map_revS (As rest : List Value) : (As.reverse ++ rest).map (av G) = (As.map (av G)).reverse ++ rest.map (av G) := by
  rw [List.map_append, List.map_reverse]
theorem cat_map (l : List Value) : ((l.map (av G)).map fun v => v.category) = l.map fun v => v.category := by
  rw [List.map_map]
  exact List.map_congr_left (fun v _ => av_cat G v)
theorem ret_map (v : Option Value) (rest : List Value) : (v.map (av G)).toList ++ rest.map (av G) = (v.toList ++ rest).map (av G) := by cases v <;> rfl
theorem aw_callV0 {M' : aM} {R' : Room} {idx ci k : Nat} {As rest : List Value} {fs : List aFS} {fr' : Option Nat} {Q' : aQ} (hK0 : va_K (gD G) vwCl (gTy G) (gs G)) (hLk : aLkV (aMo M) idx ci M') (hnp : (parseMethodDescriptor (aMn M').desc).map (fun d => d.parameters.length) = some As.length) (hst : st = As.reverse ++ .ref k :: rest) (hs : shp[k]? = some (.inr (ci, fs))) (hC : AC G R' M' (.ref k :: As) fr' shp D Q') (hf : R'.frames + 1 ≤ R.frames) (hlo : 8 + (aMl M' + 11) + R'.locals ≤ R.locals) (hcat : (rest.map (fun v => v.category)).sum ≤ 8) (hkc : kc + R'.cells ≤ R.cells) (hks : ks + R'.slots ≤ R.slots) (hfr : aFr fr fr' kc shp) (hd : decode (aMb M) pc = .ok (.invokevirtual idx, 3)) (hn : pc + 3 = n)
    (KX : ∀ (E : String) (shp' : List aSh) (D' : aD), Q' (.inr E) shp' D' → AX G R M fr (kc + R'.cells) (ks + R'.slots) pc al rest shp' D' Q E)
    (K : ∀ (v : Option Value) (shp' : List aSh) (D' : aD), Q' (.inl v) shp' D' → AW G R M fr (kc + R'.cells) (ks + R'.slots) n al (v.toList ++ rest) shp' D' Q) : AW G R M fr kc ks pc al st shp D Q := by
  subst hn; subst hst
  intro p e s m args below meth c H locs ls F hH hS hl T hT X
  obtain ⟨g1, g2, g3, g4, g5, ⟨T9, N9, g6⟩, g7, g8⟩ := hLk
  have hsz := aFr_at (G := G) (D := D) hfr F.2.2.2.2.2.2.2.2.2.2.2.2 X (by rw [hT]; exact hH)
  have hT' : T.heap = H := hT
  revert T
  intro T hT X hsz hT'
  rw [map_rev]
  refine aw_of_run (vx_runV (As := As.map (av G)) (rest := rest.map (av G)) (n := As.length) (maxL := aMl M') (bytes := aMb M') (ret := aMr M') (C := aMo M') (b := gAd G k) (Ts := aU) (cc := aMb M) (nL := aMl M) ⟨F.1, F.2.1, F.2.2.1, F.2.2.2.1, F.2.2.2.2.1⟩ hC (cwV As.length F.2.2.2.2.1 (goodAll (fun w hw => ?_)) rfl rfl rfl ⟨rfl, g7, g8, hnp⟩ ⟨hf, hlo⟩) ⟨aPc_blind, va_recv (gK_at hK0 F.2.2.2.2.2.2.2.1) hH.2.1 g6 (aW_get hs), fun U hU hW => ⟨rfl, State.WarmedH.trans F.2.2.2.2.2.2.2.1 hW, by rw [hU]; exact hH, fun n0 h0 => by rw [hU, ← hT']; exact hsz n0 h0⟩⟩ rfl (by simp) hl.1 rfl (lv_room (by rw [cat_map]; exact hcat)) hd ⟨hkc, hks⟩) hS (fun v shp' D' H1 locs1 hQ hH1 hS1 => ?_) (fun E q ce shp' D' H1 locs1 hQ hH1 hS1 hce hv hcl => KX E shp' D' hQ p e s m args below meth c H1 locs1 ls F hH1 hS1 hl q ce hce hv hcl) T hT X
  · unfold wsV at hw
    rcases List.mem_append.mp hw with h | h
    · simp only [List.mem_cons, List.not_mem_nil, or_false] at h
      rcases h with rfl | rfl | rfl | rfl
      · exact g1
      · exact g2
      · exact g3
      · exact g4
    · exact aWs_in g5 w h
  · rw [ret_map]
    exact K v shp' D' hQ p e s m args below meth c H1 locs1 ls F hH1 hS1 hl
theorem aw_callV {M' : aM} {R' : Room} {idx ci k : Nat} {As rest : List Value} {fs : List aFS} {fr' : Option Nat} {Q' : aQ} (hK0 : va_K (gD G) vwCl (gTy G) (gs G)) (hLk : aLkV (aMo M) idx ci M') (hnp : (parseMethodDescriptor (aMn M').desc).map (fun d => d.parameters.length) = some As.length) (hst : st = As.reverse ++ .ref k :: rest) (hs : shp[k]? = some (.inr (ci, fs))) (hC : AC G R' M' (.ref k :: As) fr' shp D Q') (hf : R'.frames + 1 ≤ R.frames) (hlo : 8 + (aMl M' + 11) + R'.locals ≤ R.locals) (hcat : (rest.map (fun v => v.category)).sum ≤ 8) (hkc : kc + R'.cells ≤ R.cells) (hks : ks + R'.slots ≤ R.slots) (hfr : aFr fr fr' kc shp) (hd : decode (aMb M) pc = .ok (.invokevirtual idx, 3)) (hn : pc + 3 = n) (hz : aMt M = [] ∨ ∀ (E : String) (shp' : List aSh) (D' : aD), ¬ Q' (.inr E) shp' D')
    (KX : ∀ (E : String) (shp' : List aSh) (D' : aD), Q' (.inr E) shp' D' → Q (.inr E) shp' D')
    (K : ∀ (v : Option Value) (shp' : List aSh) (D' : aD), Q' (.inl v) shp' D' → AW G R M fr (kc + R'.cells) (ks + R'.slots) n al (v.toList ++ rest) shp' D' Q) : AW G R M fr kc ks pc al st shp D Q :=
  aw_callV0 hK0 hLk hnp hst hs hC hf hlo hcat hkc hks hfr hd hn (fun E shp' D' hq => AX.or hz hq (KX E shp' D' hq) hkc hks) K
theorem aw_callS0 {M' : aM} {R' : Room} {idx : Nat} {As rest : List Value} {fr' : Option Nat} {Q' : aQ} (hLk : aLkS (aMo M) idx M') (hnp : (parseMethodDescriptor (aMn M').desc).map (fun d => d.parameters.length) = some As.length) (hst : st = As.reverse ++ rest) (hC : AC G R' M' As fr' shp D Q') (hf : R'.frames + 1 ≤ R.frames) (hlo : 8 + (aMl M' + 11) + R'.locals ≤ R.locals) (hcat : (rest.map (fun v => v.category)).sum ≤ 8) (hkc : kc + R'.cells ≤ R.cells) (hks : ks + R'.slots ≤ R.slots) (hfr : aFr fr fr' kc shp) (hd : decode (aMb M) pc = .ok (.invokestatic idx, 3)) (hn : pc + 3 = n)
    (KX : ∀ (E : String) (shp' : List aSh) (D' : aD), Q' (.inr E) shp' D' → AX G R M fr (kc + R'.cells) (ks + R'.slots) pc al rest shp' D' Q E)
    (K : ∀ (v : Option Value) (shp' : List aSh) (D' : aD), Q' (.inl v) shp' D' → AW G R M fr (kc + R'.cells) (ks + R'.slots) n al (v.toList ++ rest) shp' D' Q) : AW G R M fr kc ks pc al st shp D Q := by
  subst hn; subst hst
  intro p e s m args below meth c H locs ls F hH hS hl T hT X
  obtain ⟨g1, g2, g4, g5, g7, g8⟩ := hLk
  have hsz := aFr_at (G := G) (D := D) hfr F.2.2.2.2.2.2.2.2.2.2.2.2 X (by rw [hT]; exact hH)
  have hT' : T.heap = H := hT
  revert T
  intro T hT X hsz hT'
  rw [map_revS]
  refine aw_of_run (vx_runS (As := As.map (av G)) (rest := rest.map (av G)) (n := As.length) (maxL := aMl M') (bytes := aMb M') (ret := aMr M') (Ts := aU) (cc := aMb M) (nL := aMl M) ⟨F.1, F.2.1, F.2.2.1, F.2.2.2.1, F.2.2.2.2.1⟩ hC (va_cwS As.length F.2.2.2.2.1 (goodAll (fun w hw => ?_)) rfl rfl rfl ⟨g7, g8, hnp⟩ ⟨hf, hlo⟩) ⟨aPc_blind, fun U hU hW => ⟨rfl, State.WarmedH.trans F.2.2.2.2.2.2.2.1 hW, by rw [hU]; exact hH, fun n0 h0 => by rw [hU, ← hT']; exact hsz n0 h0⟩⟩ rfl (by simp) hl.1 rfl (lv_room (by rw [cat_map]; exact hcat)) hd ⟨hkc, hks⟩) hS (fun v shp' D' H1 locs1 hQ hH1 hS1 => ?_) (fun E q ce shp' D' H1 locs1 hQ hH1 hS1 hce hv hcl => KX E shp' D' hQ p e s m args below meth c H1 locs1 ls F hH1 hS1 hl q ce hce hv hcl) T hT X
  · unfold va_wsS at hw
    rcases List.mem_append.mp hw with h | h
    · simp only [List.mem_cons, List.not_mem_nil, or_false] at h
      rcases h with rfl | rfl | rfl
      · exact g1
      · exact g2
      · exact g4
    · exact aWs_in g5 w h
  · rw [ret_map]
    exact K v shp' D' hQ p e s m args below meth c H1 locs1 ls F hH1 hS1 hl
theorem aw_callS {M' : aM} {R' : Room} {idx : Nat} {As rest : List Value} {fr' : Option Nat} {Q' : aQ} (hLk : aLkS (aMo M) idx M') (hnp : (parseMethodDescriptor (aMn M').desc).map (fun d => d.parameters.length) = some As.length) (hst : st = As.reverse ++ rest) (hC : AC G R' M' As fr' shp D Q') (hf : R'.frames + 1 ≤ R.frames) (hlo : 8 + (aMl M' + 11) + R'.locals ≤ R.locals) (hcat : (rest.map (fun v => v.category)).sum ≤ 8) (hkc : kc + R'.cells ≤ R.cells) (hks : ks + R'.slots ≤ R.slots) (hfr : aFr fr fr' kc shp) (hd : decode (aMb M) pc = .ok (.invokestatic idx, 3)) (hn : pc + 3 = n) (hz : aMt M = [] ∨ ∀ (E : String) (shp' : List aSh) (D' : aD), ¬ Q' (.inr E) shp' D')
    (KX : ∀ (E : String) (shp' : List aSh) (D' : aD), Q' (.inr E) shp' D' → Q (.inr E) shp' D')
    (K : ∀ (v : Option Value) (shp' : List aSh) (D' : aD), Q' (.inl v) shp' D' → AW G R M fr (kc + R'.cells) (ks + R'.slots) n al (v.toList ++ rest) shp' D' Q) : AW G R M fr kc ks pc al st shp D Q :=
  aw_callS0 hLk hnp hst hC hf hlo hcat hkc hks hfr hd hn (fun E shp' D' hq => AX.or hz hq (KX E shp' D' hq) hkc hks) K
/-! Math, arraycopy -/
theorem aw_max {idx : Nat} {x y : Int32} (g1 : Cond.methodLink (aMo M) idx Lib.Math.max.name ∈ aU) (g2 : Cond.static Lib.Math.max.name ∈ aU) (g3 : Cond.initialized "java/lang/Math" ∈ aU) (g4 : Cond.code Lib.Math.max.name Lib.Math.max.code 2 (some .int) ∈ aU) (hf : 1 ≤ R.frames) (hlo : (st.map fun v => v.category).sum + 13 ≤ R.locals) (hkc : kc ≤ R.cells) (hks : ks ≤ R.slots) (hd : decode (aMb M) pc = .ok (.invokestatic idx, 3)) (hn : pc + 3 = n) (K : AW G R M fr kc ks n al (.int (if x < y then y else x) :: st) shp D Q) : AW G R M fr kc ks pc al (.int y :: .int x :: st) shp D Q := by
  subst hn
  intro p e s m args below meth c H locs ls F hH hS hl
  exact va_mmax F.1 F.2.1 (F.2.2.1.trans hl.1.symm) F.2.2.2.1 (F.2.2.2.2.1 _ g1) (F.2.2.2.2.1 _ g2) (F.2.2.2.2.1 _ g3) (F.2.2.2.2.1 _ g4) hf (by rw [cat_map]; exact hlo) hkc hks hd (K p e s m args below meth c H locs ls F hH hS hl)
theorem aw_min {idx : Nat} {x y : Int32} (g1 : Cond.methodLink (aMo M) idx Lib.Math.min.name ∈ aU) (g2 : Cond.static Lib.Math.min.name ∈ aU) (g3 : Cond.initialized "java/lang/Math" ∈ aU) (g4 : Cond.code Lib.Math.min.name Lib.Math.min.code 2 (some .int) ∈ aU) (hf : 1 ≤ R.frames) (hlo : (st.map fun v => v.category).sum + 13 ≤ R.locals) (hkc : kc ≤ R.cells) (hks : ks ≤ R.slots) (hd : decode (aMb M) pc = .ok (.invokestatic idx, 3)) (hn : pc + 3 = n) (K : AW G R M fr kc ks n al (.int (if y < x then y else x) :: st) shp D Q) : AW G R M fr kc ks pc al (.int y :: .int x :: st) shp D Q := by
  subst hn
  intro p e s m args below meth c H locs ls F hH hS hl
  exact va_mmin F.1 F.2.1 (F.2.2.1.trans hl.1.symm) F.2.2.2.1 (F.2.2.2.2.1 _ g1) (F.2.2.2.2.1 _ g2) (F.2.2.2.2.1 _ g3) (F.2.2.2.2.1 _ g4) hf (by rw [cat_map]; exact hlo) hkc hks hd (K p e s m args below meth c H locs ls F hH hS hl)
theorem aw_abs {idx : Nat} {x : Int32} (g1 : Cond.methodLink (aMo M) idx Lib.Math.abs.name ∈ aU) (g2 : Cond.static Lib.Math.abs.name ∈ aU) (g3 : Cond.initialized "java/lang/Math" ∈ aU) (g4 : Cond.code Lib.Math.abs.name Lib.Math.abs.code 1 (some .int) ∈ aU) (hf : 1 ≤ R.frames) (hlo : (st.map fun v => v.category).sum + 13 ≤ R.locals) (hkc : kc ≤ R.cells) (hks : ks ≤ R.slots) (hd : decode (aMb M) pc = .ok (.invokestatic idx, 3)) (hn : pc + 3 = n) (K : AW G R M fr kc ks n al (.int (if 0 ≤ x then x else 0 - x) :: st) shp D Q) : AW G R M fr kc ks pc al (.int x :: st) shp D Q := by
  subst hn
  intro p e s m args below meth c H locs ls F hH hS hl
  exact va_mabs F.1 F.2.1 (F.2.2.1.trans hl.1.symm) F.2.2.2.1 (F.2.2.2.2.1 _ g1) (F.2.2.2.2.1 _ g2) (F.2.2.2.2.1 _ g3) (F.2.2.2.2.1 _ g4) hf (by rw [cat_map]; exact hlo) hkc hks hd (K p e s m args below meth c H locs ls F hH hS hl)
theorem aw_copy {idx k0 k1 n0 n1 : Nat} {rs0 rs1 : List (Option Nat)} {sp dp nn : Int32} {D' : aD} (hK0 : va_K (gD G) vwCl (gTy G) (gs G)) (g1 : Cond.methodLink (aMo M) idx arraycopyName ∈ aU) (g2 : Cond.native arraycopyName ∈ aU) (g3 : Cond.static arraycopyName ∈ aU) (g4 : Cond.initialized "java/lang/System" ∈ aU) (hs0 : shp[k0]? = some (.inl (1, n0, rs0))) (hs1 : shp[k1]? = some (.inl (1, n1, rs1))) (h1 : ¬ sp < 0) (h2 : ¬ dp < 0) (h3 : ¬ nn < 0) (h4 : sp.toNatClampNeg + nn.toNatClampNeg ≤ n0) (h5 : dp.toNatClampNeg + nn.toNatClampNeg ≤ n1) (hD' : D' = pA D k1 (va_cpy (D.1 k0) (D.1 k1) sp.toNatClampNeg dp.toNatClampNeg nn.toNatClampNeg)) (hf : 1 ≤ R.frames) (hlo : (st.map fun v => v.category).sum + (nativeFrameWords "java/lang/System" "arraycopy" 5 + 11) ≤ R.locals) (hd : decode (aMb M) pc = .ok (.invokestatic idx, 3)) (hn : pc + 3 = n) (K : AW G R M fr kc ks n al st shp D' Q) : AW G R M fr kc ks pc al (.int nn :: .int dp :: .ref k1 :: .int sp :: .ref k0 :: st) shp D Q := by
  subst hn; subst hD'
  intro p e s m args below meth c H locs ls F hH hS hl
  refine va_copyi (D := gD G) (cl := vwCl) (tys := gTy G) (ws := aW G shp D) (ty := .int) F.1 F.2.1 (F.2.2.1.trans hl.1.symm) F.2.2.2.1 (F.2.2.2.2.1 _ g1) (F.2.2.2.2.1 _ g2) (F.2.2.2.2.1 _ g3) (F.2.2.2.2.1 _ g4) (gK_at hK0 F.2.2.2.2.2.2.2.1) hH.2.1 (aW_D hH.1) hS k0 k1 1 1 (aW_prim hs0 (by decide) (by decide)) (aW_prim hs1 (by decide) (by decide)) rfl rfl rfl h1 h2 h3 h4 h5 (fun _ _ => rfl) hf (by rw [cat_map]; exact hlo) hd (fun H1 locs1 hP hD hS1 => ?_)
  rw [aW_setG hs1 (by decide) (by decide)] at hP
  exact K p e s m args below meth c H1 locs1 ls F (aH_up hH.1 hP hS1 F.2.2.2.2.2.2.2.2.1 F.2.2.2.2.2.2.2.2.2.1) hS1 hl
/-! a throw: new, dup, ldc, the constructor, athrow -/
def exI : String := "java/lang/IllegalArgumentException"
def exN : String := "java/util/NoSuchElementException"
def exNm : List String := ["java/lang/RuntimeException", "java/lang/Exception"]
def exSp : List Cond := [.castable exI exI, .castable exN exN, .declares (Bundle.initS "java/lang/RuntimeException"), .declares (Bundle.initS "java/lang/Exception"), .declares (Bundle.initS "java/lang/Throwable")]
def gEx (G : aG) : Prop := (gl G).stackTraces = false ∧ vx_Zq Bundle.tN "UNASSIGNED_STACK" Bundle.steD (aA G) (gs G) (gs G).heap ∧ vx_Zq Bundle.tN "SUPPRESSED_SENTINEL" Bundle.listD (aA G) (gs G) (gs G).heap ∧ ∀ w ∈ exSp, va_Nw w (gs G)
theorem exSp_at {s : State} {args : Array Value} (hE : gEx G) (hW : (gs G).WarmedH s.vm) : ∀ w ∈ exSp, w.before args s = true := by
  intro w hw
  have h := hE.2.2.2 w hw
  simp only [exSp, List.mem_cons, List.not_mem_nil, or_false] at hw
  rcases hw with rfl | rfl | rfl | rfl | rfl
  · exact va_Nw.use rfl (va_Nw.warmC hW h)
  · exact va_Nw.use rfl (va_Nw.warmC hW h)
  · exact va_Nw.use rfl (va_Nw.warmD hW h)
  · exact va_Nw.use rfl (va_Nw.warmD hW h)
  · exact va_Nw.use rfl (va_Nw.warmD hW h)
def exOk (L : List Cond) : Prop := ∀ w ∈ L, w ∈ aU ∨ w ∈ exSp
theorem exOk_at {L : List Cond} {s : State} {args : Array Value} (h : exOk L) (hE : gEx G) (hW : (gs G).WarmedH s.vm) (hts : ∀ w ∈ aU, w.before args s = true) : ∀ w ∈ L, w.before args s = true := fun w hw => (h w hw).elim (hts w) (exSp_at hE hW w)
theorem exOk_ot {L : List Cond} (h : exOk L) : ∀ w ∈ L, vx_ot w = true := by
  intro w hw
  rcases h w hw with h1 | h1
  · simp [vx_ot, aU_good w h1]
  · simp only [exSp, List.mem_cons, List.not_mem_nil, or_false] at h1
    rcases h1 with rfl | rfl | rfl | rfl | rfl <;> rfl
theorem aw_throw {cls text : String} {names : List String} {ik is ic sk : Nat} (hE : gEx G) (hcls : Bundle.fit cls = true) (hnames : ∀ n ∈ names, Bundle.fit n = true) (g1 : Cond.classLink (aMo M) ik cls ∈ aU) (g2 : Cond.initialized cls ∈ aU) (hstr : vk_R (aMo M) is text (gAd G sk) (gs G)) (g3 : exOk (vx_atS (aMo M) ic cls names))
    (d0 : decode (aMb M) pc = .ok (.new ik, 3)) (d3 : decode (aMb M) (pc + 3) = .ok (.dup, 1)) (d4 : decode (aMb M) (pc + 4) = .ok (.ldc is, 2)) (d6 : decode (aMb M) (pc + 6) = .ok (.invokespecial ic, 3)) (d9 : decode (aMb M) (pc + 9) = .ok (.athrow, 1))
    (hRf : names.length + 3 < R.frames) (hRl : (st.map fun v => v.category).sum + (13 * (names.length + 1) + 43) ≤ R.locals) (hRc : kc + 1 ≤ R.cells) (hRs : ks + 6 ≤ R.slots) (hQ : Q (.inr cls) shp D) (hTab : aMt M = [] := by rfl) : AW G R M fr kc ks pc al st shp D Q := by
  intro p e s m args below meth c H locs ls F hH hS hl
  have gw : ∀ w : Cond, w ∈ aU → vx_ot w = true := fun w hw => by simp [vx_ot, aU_good w hw]
  have hz : ∀ a : Nat, a < (gs G).heap.size → ¬ aA G a → s.heap[a]? = (gs G).heap[a]? := fun a h1 h2 => F.2.2.2.2.2.2.2.2.2.1 a h1
  refine vx_throwS (A := aA G) (sa := gAd G sk) F.1 F.2.1 hE.1 F.2.2.2.1 hcls hnames (F.2.2.2.2.1 _ g1) (F.2.2.2.2.1 _ g2) (vk_R.warm F.2.2.2.2.2.2.2.1 hstr) (exOk_at g3 hE F.2.2.2.2.2.2.2.1 F.2.2.2.2.1) (fun w hw => ?_) (vx_Zq.moved F.2.2.2.2.2.2.2.1.alike (hE.2.1.kept hz)) (vx_Zq.moved F.2.2.2.2.2.2.2.1.alike (hE.2.2.1.kept hz)) hS (hl.1.trans F.2.2.1.symm) d0 d3 d4 d6 d9 (fun x hx => (aTab0 F hTab x hx).elim) hRf (by rw [cat_map]; exact hRl) hRc hRs F.2.2.2.2.2.2.1 (fun t hv hz1 hk1 => ?_) hS.2.2 hRc hRs
  · rcases List.mem_cons.mp hw with rfl | hw
    · exact gw _ g1
    · rcases List.mem_cons.mp hw with rfl | hw
      · exact gw _ g2
      · exact exOk_ot g3 w hw
  · refine ⟨shp, D, hQ, ⟨hH.1, va_P.kept hH.2.1 (fun k x hx => hk1 x.1 ((hH.2.1 k x hx).lt)), fun q hq => ?_, Nat.le_trans hH.2.2.2 hz1⟩, ⟨Nat.le_trans hS.1 hz1, fun q h1 h2 => ?_⟩⟩
    · rw [hk1 q (Nat.lt_of_lt_of_le hq hH.2.2.2)]
      exact hH.2.2.1 q hq
    · rw [hk1 q (Nat.lt_of_lt_of_le h1 hS.1)]
      exact hS.2.1 q h1 h2
theorem aw_throwW {cls text : String} {names : List String} {ik is ic sk : Nat} (hE : gEx G) (hcls : Bundle.fit cls = true) (hnames : ∀ n ∈ names, Bundle.fit n = true) (g1 : Cond.classLink (aMo M) ik cls ∈ aU) (g2 : Cond.initialized cls ∈ aU) (hstr : vk_R (aMo M) is text (gAd G sk) (gs G)) (g3 : exOk (vx_atS (aMo M) ic cls names))
    (d0 : decode (aMb M) pc = .ok (.new ik, 3)) (d3 : decode (aMb M) (pc + 3) = .ok (.dup, 1)) (d4 : decode (aMb M) (pc + 4) = .ok (.ldc_w is, 3)) (d6 : decode (aMb M) (pc + 7) = .ok (.invokespecial ic, 3)) (d9 : decode (aMb M) (pc + 10) = .ok (.athrow, 1))
    (hRf : names.length + 3 < R.frames) (hRl : (st.map fun v => v.category).sum + (13 * (names.length + 1) + 43) ≤ R.locals) (hRc : kc + 1 ≤ R.cells) (hRs : ks + 6 ≤ R.slots) (hQ : Q (.inr cls) shp D) (hTab : aMt M = [] := by rfl) : AW G R M fr kc ks pc al st shp D Q := by
  intro p e s m args below meth c H locs ls F hH hS hl
  have gw : ∀ w : Cond, w ∈ aU → vx_ot w = true := fun w hw => by simp [vx_ot, aU_good w hw]
  have hz : ∀ a : Nat, a < (gs G).heap.size → ¬ aA G a → s.heap[a]? = (gs G).heap[a]? := fun a h1 h2 => F.2.2.2.2.2.2.2.2.2.1 a h1
  refine vx_throwSW (A := aA G) (sa := gAd G sk) F.1 F.2.1 hE.1 F.2.2.2.1 hcls hnames (F.2.2.2.2.1 _ g1) (F.2.2.2.2.1 _ g2) (vk_R.warm F.2.2.2.2.2.2.2.1 hstr) (exOk_at g3 hE F.2.2.2.2.2.2.2.1 F.2.2.2.2.1) (fun w hw => ?_) (vx_Zq.moved F.2.2.2.2.2.2.2.1.alike (hE.2.1.kept hz)) (vx_Zq.moved F.2.2.2.2.2.2.2.1.alike (hE.2.2.1.kept hz)) hS (hl.1.trans F.2.2.1.symm) d0 d3 d4 d6 d9 (fun x hx => (aTab0 F hTab x hx).elim) hRf (by rw [cat_map]; exact hRl) hRc hRs F.2.2.2.2.2.2.1 (fun t hv hz1 hk1 => ?_) hS.2.2 hRc hRs
  · rcases List.mem_cons.mp hw with rfl | hw
    · exact gw _ g1
    · rcases List.mem_cons.mp hw with rfl | hw
      · exact gw _ g2
      · exact exOk_ot g3 w hw
  · refine ⟨shp, D, hQ, ⟨hH.1, va_P.kept hH.2.1 (fun k x hx => hk1 x.1 ((hH.2.1 k x hx).lt)), fun q hq => ?_, Nat.le_trans hH.2.2.2 hz1⟩, ⟨Nat.le_trans hS.1 hz1, fun q h1 h2 => ?_⟩⟩
    · rw [hk1 q (Nat.lt_of_lt_of_le hq hH.2.2.2)]
      exact hH.2.2.1 q hq
    · rw [hk1 q (Nat.lt_of_lt_of_le h1 hS.1)]
      exact hS.2.1 q h1 h2
theorem aw_ldcwI {i : Nat} {v : Int32} (hc : Cond.constant (aMo M) i v ∈ aU) (hd : decode (aMb M) pc = .ok (.ldc_w i, 3)) (hn : pc + 3 = n) (K : AW G R M fr kc ks n al (.int v :: st) shp D Q) : AW G R M fr kc ks pc al st shp D Q := by
  subst hn
  intro p e s m args below meth c H locs ls F hH hS hl
  exact lv_ldcw F.1 F.2.1 F.2.2.2.1 (F.2.2.2.2.1 _ hc) hd (K p e s m args below meth c H locs ls F hH hS hl)
theorem aw_ldcS {is sk : Nat} {text : String} (hstr : vk_R (aMo M) is text (gAd G sk) (gs G)) (hd : decode (aMb M) pc = .ok (.ldc is, 2)) (hn : pc + 2 = n) (K : AW G R M fr kc ks n al (.ref sk :: st) shp D Q) : AW G R M fr kc ks pc al st shp D Q := by
  subst hn
  intro p e s m args below meth c H locs ls F hH hS hl
  exact va_ldcS F.1 F.2.1 F.2.2.2.1 (vk_R.warm F.2.2.2.2.2.2.2.1 hstr) hd (K p e s m args below meth c H locs ls F hH hS hl)
theorem aw_ldcwS {is sk : Nat} {text : String} (hstr : vk_R (aMo M) is text (gAd G sk) (gs G)) (hd : decode (aMb M) pc = .ok (.ldc_w is, 3)) (hn : pc + 3 = n) (K : AW G R M fr kc ks n al (.ref sk :: st) shp D Q) : AW G R M fr kc ks pc al st shp D Q := by
  subst hn
  intro p e s m args below meth c H locs ls F hH hS hl T hT X
  obtain ⟨t, a1, b1⟩ := K p e s m args below meth c H locs ls F hH hS hl T hT X
  have hZ := vk_R.warm F.2.2.2.2.2.2.2.1 hstr
  exact ⟨t, X.ldcStringW F.1 F.2.2.2.1 hZ.1 hZ.2 (g := F0 m pc ls (st.map (av G))) rfl (by rw [F.2.1]; exact hd) t a1, b1⟩
end AWC
