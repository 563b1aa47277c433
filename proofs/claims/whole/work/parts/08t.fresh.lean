section FRESH
variable {G : aG} {M : aM} {fr : Option Nat} {R : Room} {kc ks pc n : Nat} {al : List (Option Value)} {st : List Value} {shp : List aSh} {D : aD} {Q : aQ}
/-- a new cell holds zeros -/
def z0 (D : aD) (k : Nat) : aD := (fun k' => if k' = k then fun _ => 0 else D.1 k', fun k' => if k' = k then fun _ => 0 else D.2 k')
theorem aC_z0 {k i : Nat} (h : i ≠ k) (c : aSh) : aC G (z0 D k) i c = aC G D i c := by
  cases c with
  | inl a => simp [aC, z0, h]
  | inr o =>
    simp only [aC]
    have e : (fun (j' : Nat) (f : aFS) => aF G (z0 D k) i j' f) = fun (j' : Nat) (f : aFS) => aF G D i j' f := by
      funext j' f
      cases f <;> simp [aF, z0, h]
    rw [e]
theorem aW_app {c : aSh} : aW G (shp ++ [c]) (z0 D shp.length) = aW G shp D ++ [(gAd G shp.length, aC G (z0 D shp.length) shp.length c)] := by
  refine List.ext_getElem? (fun i => ?_)
  simp only [aW, List.getElem?_mapIdx, List.getElem?_append, List.length_mapIdx]
  by_cases h : i < shp.length
  · rw [if_pos h, if_pos h]
    cases hs : shp[i]? with
    | none => rfl
    | some c' => simp only [Option.map_some]; rw [aC_z0 (by omega)]
  · rw [if_neg h, if_neg h]
    by_cases h2 : i = shp.length
    · subst h2; simp
    · have h3 : ¬ i - shp.length = 0 := by omega
      cases h4 : i - shp.length with
      | zero => exact absurd h4 h3
      | succ j => simp
def aDv : aFS → Value
  | none => .int 0
  | some _ => .null
theorem aF_z0 {k j : Nat} {f : aFS} (h : f = none ∨ f = some none) : aF G (z0 D k) k j f = aDv f := by
  rcases h with rfl | rfl
  · simp [aF, z0, aDv]
  · rfl
def aNF (fs : List aFS) : Prop := ∀ f ∈ fs, f = none ∨ f = some none
theorem aF_new {k : Nat} {fs : List aFS} (h : aNF fs) : fs.mapIdx (fun j f => aF G (z0 D k) k j f) = fs.map aDv := by
  refine List.ext_getElem? (fun i => ?_)
  rw [List.getElem?_mapIdx, List.getElem?_map]
  cases hf : fs[i]? with
  | none => rfl
  | some f => simp only [Option.map_some]; rw [aF_z0 (h f (List.mem_of_getElem? hf))]
theorem aH_new {H H1 : Heap} {e : aSh} {s : State} {locs : List Loc} {shp' : List aSh} (hH : aH G shp D H) (hl : shp.length < 10000) (hS : va_S (aA G) s.heap H locs) (hz : H.size = glo G + shp.length) (z1 : H1.size = glo G + shp.length + 1) (o1 : ∀ q, q < glo G + shp.length → H1[q]? = H[q]?) (hs : shp' = shp ++ [e]) (he : va_at (gD G) vwCl (glo G + shp.length, aC G (z0 D shp.length) shp.length e) H1) : aH G shp' (z0 D shp.length) H1 ∧ va_S (aA G) s.heap H1 locs := by
  subst hs
  refine ⟨⟨?_, ?_, fun q hq => ?_, by omega⟩, ⟨Nat.le_trans hS.1 (by omega), fun x h1 h2 => (o1 x (by have := hS.1; omega)).trans (hS.2.1 x h1 h2), hS.2.2⟩⟩
  · rw [List.length_append, List.length_singleton]; omega
  · rw [aW_app]
    refine (hH.2.1.kept (fun k x hx => o1 x.1 (by have := (hH.2.1 k x hx).lt; omega))).app (fun k x hx => ?_)
    have hz9 : k < 1 := (List.getElem?_eq_some_iff.mp hx).1
    rw [show k = 0 by omega] at hx
    cases hx
    rw [gAd_lo hl]
    exact he
  · rw [o1 q (by omega)]
    exact hH.2.2.1 q hq
theorem av_new (hl : shp.length < 10000) : ((Value.ref shp.length :: st).map (av G)) = .ref (glo G + shp.length) :: st.map (av G) := by
  simp only [List.map_cons, av, gAd_lo hl]
theorem aw_new {idx ci N n0 : Nat} {C : String} {T : u_T} {fs : List aFS} {shp' : List aSh} {D' : aD} {L kc' ks' : Nat} (ty : Nat → FieldType) (hK0 : va_K (gD G) vwCl (gTy G) (gs G)) (hfr : fr = some n0) (hL : shp.length = L) (hsz : n0 + kc = L) (hl : L < 10000) (hc : vwCl[ci]? = some (C, T, N)) (hw : ∀ w ∈ u_ws C T N, w ∈ aU) (hty : ∀ k, k < N → parseFieldDescriptor (T k).2.2.1 = some (ty k)) (hfs : ∀ j, j < N → defaultValue (ty j) = vp_V (fs.map aDv) j) (hnf : aNF fs) (g1 : Cond.classLink (aMo M) idx C ∈ aU) (g2 : Cond.instantiable C N ∈ aU) (g3 : Cond.initialized C ∈ aU) (hcells : kc + 1 ≤ R.cells) (hslots : ks + N ≤ R.slots) (hd : decode (aMb M) pc = .ok (.new idx, 3)) (hn : pc + 3 = n) (hs' : shp' = shp ++ [.inr (ci, fs)]) (hk1 : kc + 1 = kc') (hk2 : ks + N = ks') (hD' : D' = z0 D L) (K : AW G R M fr kc' ks' n al (.ref L :: st) shp' D' Q) : AW G R M fr kc ks pc al st shp D Q := by
  subst hL; subst hD'; subst hk1; subst hk2
  subst hn
  intro p e s m args below meth c H locs ls F hH hS hl2 T9 hT X
  have hz : H.size = glo G + shp.length := by
    have h9 := aH_size X (by rw [hT]; exact hH) (F.2.2.2.2.2.2.2.2.2.2.2.2 n0 hfr) hsz
    rw [hT] at h9; exact h9
  have hKn := (gK_at hK0 F.2.2.2.2.2.2.2.1).1 ci _ hc
  refine W.newcK (g := F0 m pc ls (st.map (av G))) F.1 F.2.1 F.2.2.2.1 (F.2.2.2.2.1 _ g1) (F.2.2.2.2.1 _ g2) (F.2.2.2.2.1 _ g3) rfl hd hcells hslots hKn.2.1 hz (fun H1 kC hkC e1 z1 o1 => ?_) T9 hT X
  obtain ⟨h1, h2⟩ := aH_new (e := .inr (ci, fs)) hH hl hS hz z1 o1 hs' (by
    show va_at (gD G) vwCl (glo G + shp.length, .inr (ci, fs.mapIdx (fun j f => aF G (z0 D shp.length) shp.length j f))) H1
    rw [aF_new hnf]
    exact ⟨_, hc, (u_born ty (fun w hw2 => F.2.2.2.2.1 w hw2) hw hKn hkC e1 hty).to hfs⟩)
  have h9 := K p e s m args below meth c H1 locs ls F h1 h2 hl2
  rw [av_new hl] at h9
  exact h9
theorem aw_newa {t N n0 : Nat} {nn : Int32} {ty : FieldType} {atype : ArrayType} {shp' : List aSh} {D' : aD} {L kc' ks' : Nat} (hK0 : va_K (gD G) vwCl (gTy G) (gs G)) (hfr : fr = some n0) (hL : shp.length = L) (hsz : n0 + kc = L) (hl : L < 10000) (harr : Cond.arrayClass (newarray.typeOf atype) ∈ aU) (hty : newarray.typeOf atype = ty) (hg : (gTy G)[t]? = some (gcy G t, ty)) (hra : ∀ (U : State) (cA : ClassId), va_RA U cA ty → U.vm.findClass ("[" ++ ty.toString) = some cA) (hcell : ∀ (cA : ClassId) (D : aD) (k : Nat), va_at (gD G) vwCl (glo G + k, aC G (z0 D k) k (.inl (t, N, []))) = fun H : Heap => H[glo G + k]? = some (arrV (gcy G t) N (fun _ => defaultValue ty))) (hnn : ¬ nn < 0) (hN : nn.toNatClampNeg = N) (hb : N * componentBytes ty ≤ 536870912) (hcells : kc + 1 ≤ R.cells) (hslots : ks + N ≤ R.slots) (hd : decode (aMb M) pc = .ok (.newarray atype, 2)) (hn : pc + 2 = n) (hs' : shp' = shp ++ [.inl (t, N, [])]) (hk1 : kc + 1 = kc') (hk2 : ks + N = ks') (hD' : D' = z0 D L) (K : AW G R M fr kc' ks' n al (.ref L :: st) shp' D' Q) : AW G R M fr kc ks pc al (.int nn :: st) shp D Q := by
  subst hL; subst hD'; subst hk1; subst hk2
  subst hn; subst hty
  intro p e s m args below meth c H locs ls F hH hS hl2 T9 hT X
  have hz : H.size = glo G + shp.length := by
    have h9 := aH_size X (by rw [hT]; exact hH) (F.2.2.2.2.2.2.2.2.2.2.2.2 n0 hfr) hsz
    rw [hT] at h9; exact h9
  refine va_newaK (g := F0 m pc ls (.int nn :: st.map (av G))) F.1 F.2.1 (F.2.2.2.2.1 _ harr) rfl hd rfl hnn hN hb hcells hslots hz (fun H1 cA e1 z1 o1 hAr hNm => ?_) T9 hT X
  have hcA : cA = gcy G t := Option.some.inj (hNm.symm.trans (hra s _ ((gK_at hK0 F.2.2.2.2.2.2.2.1).2 t _ hg).2))
  subst hcA
  obtain ⟨h1, h2⟩ := aH_new (e := .inl (t, N, [])) hH hl hS hz z1 o1 hs' (by rw [hcell (gcy G t)]; exact e1)
  have h9 := K p e s m args below meth c H1 locs ls F h1 h2 hl2
  rw [av_new hl] at h9
  exact h9
theorem aw_objInit {idx k : Nat} (g1 : Cond.methodLink (aMo M) idx Lib.objectInit ∈ aU) (g2 : Cond.instanceMethod Lib.objectInit ∈ aU) (g3 : Cond.code Lib.objectInit ⟨#[0xb1]⟩ 1 none ∈ aU) (hf : 1 ≤ R.frames) (hlo : (st.map fun v => v.category).sum + 12 ≤ R.locals) (hd : decode (aMb M) pc = .ok (.invokespecial idx, 3)) (hn : pc + 3 = n) (K : AW G R M fr kc ks n al st shp D Q) : AW G R M fr kc ks pc al (.ref k :: st) shp D Q := by
  subst hn
  intro p e s m args below meth c H locs ls F hH hS hl
  exact W.objInit F.1 F.2.1 F.2.2.2.1 (F.2.2.2.2.1 _ g1) (F.2.2.2.2.1 _ g2) (F.2.2.2.2.1 _ g3) rfl (by rw [F.2.2.1]; exact hl.1) rfl hd hf (by
    show 2 * 0 + ((st.map (av G)).map fun v => v.category).sum + 12 ≤ R.locals
    rw [cat_map, Nat.mul_zero, Nat.zero_add]; exact hlo) (K p e s m args below meth c H locs ls F hH hS hl)
theorem aw_anew {idx t N n0 : Nat} {nn : Int32} {C : String} {shp' : List aSh} {D' : aD} {L kc' ks' : Nat} (hK0 : va_K (gD G) vwCl (gTy G) (gs G)) (hfr : fr = some n0) (hL : shp.length = L) (hsz : n0 + kc = L) (hl : L < 10000) (g1 : Cond.classLink (aMo M) idx C ∈ aU) (g2 : va_AO C (gs G)) (ht : 4 ≤ t) (hg : (gTy G)[t]? = some (gcy G t, .object C)) (hnn : ¬ nn < 0) (hN : nn.toNatClampNeg = N) (hb : N * 4 ≤ 536870912) (hcells : kc + 1 ≤ R.cells) (hslots : ks + N ≤ R.slots) (hd : decode (aMb M) pc = .ok (.anewarray idx, 3)) (hn : pc + 3 = n) (hs' : shp' = shp ++ [.inl (t, N, List.replicate N none)]) (hk1 : kc + 1 = kc') (hk2 : ks + N = ks') (hD' : D' = z0 D L) (K : AW G R M fr kc' ks' n al (.ref L :: st) shp' D' Q) : AW G R M fr kc ks pc al (.int nn :: st) shp D Q := by
  subst hL; subst hD'; subst hk1; subst hk2
  subst hn; subst hN
  intro p e s m args below meth c H locs ls F hH hS hl2 T9 hT X
  have hz : H.size = glo G + shp.length := by
    have h9 := aH_size X (by rw [hT]; exact hH) (F.2.2.2.2.2.2.2.2.2.2.2.2 n0 hfr) hsz
    rw [hT] at h9; exact h9
  refine W.anew (g := F0 m pc ls (.int nn :: st.map (av G))) F.1 F.2.1 F.2.2.2.1 (F.2.2.2.2.1 _ g1) (va_AO.use (va_AO.moved F.2.2.2.2.2.2.2.1.alike g2)) rfl hd rfl hnn hb hcells hslots (fun cA kA comp c1 c2 c3 c4 => ?_) T9 hT X
  obtain ⟨-, -, -, -, -, hNm⟩ : va_RA s (gcy G t) (.object C) := ((gK_at hK0 F.2.2.2.2.2.2.2.1).2 t _ hg).2
  have hcA : cA = gcy G t := Option.some.inj (c1.symm.trans hNm)
  subst hcA
  obtain ⟨h1, h2⟩ := aH_new (H1 := H.push { cls := gcy G t, slots := Array.replicate nn.toNatClampNeg .null, vm := .none }) (e := .inl (t, nn.toNatClampNeg, List.replicate nn.toNatClampNeg none)) hH hl hS hz (by rw [Array.size_push, hz]) (fun q hq => by rw [Array.getElem?_push, if_neg (by omega)]) hs' (by
    have h2 : ¬ t = 2 := by omega
    have h3 : ¬ t < 4 := by omega
    have e0 : (fun i => ((List.replicate nn.toNatClampNeg (none : Option Nat)).getD i none).map (gAd G)) = fun _ => none := by
      funext i
      rw [List.getD_eq_getElem?_getD, List.getElem?_replicate]
      split <;> rfl
    show (H.push _)[glo G + shp.length]? = some (vp_cell _ _)
    simp only [if_neg h2, if_neg h3, e0]
    rw [← hz, Array.getElem?_push, if_pos rfl]
    exact congrArg some ((arrV_new (gcy G t) nn.toNatClampNeg .null).trans (rfl : arrV (gcy G t) nn.toNatClampNeg (fun _ => Value.null) = vp_cell (gcy G t) (nn.toNatClampNeg, .inr (.inr (.inr (.inr (fun _ => none))))))))
  have h9 := K p e s m args below meth c _ locs ls F h1 h2 hl2
  rw [av_new hl, ← hz] at h9
  exact h9
theorem AC.met {args0 : List Value} {shp2 : List aSh} {K' : aD → Prop} (h : AC G R M args0 fr shp D (aQv shp2 K')) : Met (gl G) (aMn M) (aWs M) R (aPc G args0 fr shp D) (aQc G (aQv shp2 K')) R.cells R.slots (aA G) := by
  intro p e ha hc hk s m a below hf happ hP ht
  obtain ⟨n, o, h1, h2, h3, h4⟩ := h p e ha hc hk s m a below hf happ hP ht
  refine ⟨n, o, h1, h2, h3, ?_⟩
  rcases h4 with h4 | ⟨q, -, E, ce, L, ⟨shp', D', ⟨e0, -⟩, -⟩, -⟩
  · exact h4
  · cases e0
def aLkI (own : String) (idx ci : Nat) (M' : aM) : Prop := Cond.methodLink own idx (aMn M') ∈ aU ∧ Cond.instanceMethod (aMn M') ∈ aU ∧ Cond.initialized (aMo M') ∈ aU ∧ Cond.code (aMn M') (aMb M') (aMl M') none ∈ aU ∧ aMr M' = none ∧ (aMn M').name = "<init>" ∧ aNH (aMo M')
def aLkN (G : aG) (own : String) (idx ci : Nat) (M' : aM) : Prop := (∃ host, va_Nw (.methodLinkNest own idx (aMn M') host) (gs G)) ∧ Cond.instanceMethod (aMn M') ∈ aU ∧ Cond.initialized (aMo M') ∈ aU ∧ Cond.code (aMn M') (aMb M') (aMl M') none ∈ aU ∧ aMr M' = none ∧ (aMn M').name = "<init>" ∧ aNH (aMo M')
theorem aw_init {M' : aM} {idx ci k d d' mc ms mc' ms' kn kn2 n0 L np : Nat} {As rest : List Value} {shp2 : List aSh} {K' : aD → Prop} (hLk0 : aLkI (aMo M) idx ci M' ∧ aNp M' = some np) (hAs : As.length = np) (hst : st = As.reverse ++ .ref k :: rest) (hC : AC G (aRm d' mc' ms') M' (.ref k :: As) (some L) shp D (aQv shp2 K')) (hfr : fr = some n0) (hL : shp.length = L) (hsz : n0 + kc = L) (hf : aFit d' d M' = true) (hcat : (rest.map (fun v => v.category)).sum ≤ 8) (hk1 : kc + mc' = kn) (hk2 : ks + ms' = kn2) (hkc : kn ≤ mc) (hks : kn2 ≤ ms) (hd : decode (aMb M) pc = .ok (.invokespecial idx, 3)) (hn : pc + 3 = n)
    (K : ∀ (D' : aD), K' D' → AW G (aRm d mc ms) M fr kn kn2 n al rest shp2 D' Q) : AW G (aRm d mc ms) M fr kc ks pc al st shp D Q := by
  have hLk := hLk0.1
  have hnp : (parseMethodDescriptor (aMn M').desc).map (fun d => d.parameters.length) = some As.length := by rw [hAs]; exact hLk0.2
  subst hL; subst hn; subst hst; subst hk1; subst hk2
  intro p e s m args below meth c H locs ls F hH hS hl T hT X
  obtain ⟨g1, g2, g4, g5, g6, g7, g8⟩ := hLk
  have hsz := aFr_at (G := G) (D := D) (Or.inr ⟨rfl, n0, hfr, hsz⟩) F.2.2.2.2.2.2.2.2.2.2.2.2 X (by rw [hT]; exact hH)
  have hT' : T.heap = H := hT
  have hws : ∀ w ∈ aWs M', w ∈ aU := aWs_in (by rw [g6]; exact g5)
  revert T
  intro T hT X hsz hT'
  rw [map_rev]
  refine aw_of_run (Q' := aQv shp2 K') (fun T hT X => Or.inl (va_runI (As := As.map (av G)) (rest := rest.map (av G)) (n := As.length) (maxL := aMl M') (bytes := aMb M') (b := gAd G k) (Ts := aU) (cc := aMb M) (nL := aMl M) ⟨F.1, F.2.1, F.2.2.1, F.2.2.2.1, F.2.2.2.2.1⟩ hC.met (cwI As.length F.2.2.2.2.1 (goodAll hws) (by rw [← g6]; rfl) rfl rfl (F.2.2.2.2.1 _ g4) (F.2.2.2.2.1 _ g1) (F.2.2.2.2.1 _ g2) g7 ⟨g8.1, g8.2, hnp⟩ (aFit_ok hf)) ⟨aPc_blind, fun U hU hW => ⟨rfl, State.WarmedH.trans F.2.2.2.2.2.2.2.1 hW, by rw [hU]; exact hH, fun n0 h0 => by rw [hU, ← hT']; exact hsz n0 h0⟩⟩ rfl (by simp) hl.1 rfl (lv_room (by rw [cat_map]; exact hcat)) hd ⟨hkc, hks⟩ T hT X)) hS (fun v shp' D' H1 locs1 hQ hH1 hS1 => ?_) (fun E q ce shp' D' H1 locs1 hQ hH1 hS1 hce hv hcl => ?_) T hT X
  · obtain ⟨e0, rfl, hk⟩ := hQ
    cases e0
    exact K D' hk p e s m args below meth c H1 locs1 ls F hH1 hS1 hl
  · obtain ⟨e0, -⟩ := hQ; cases e0
theorem aw_initN {M' : aM} {idx ci k d d' mc ms mc' ms' kn kn2 n0 L np : Nat} {As rest : List Value} {shp2 : List aSh} {K' : aD → Prop} (hLk0 : aLkN G (aMo M) idx ci M' ∧ aNp M' = some np) (hAs : As.length = np) (hst : st = As.reverse ++ .ref k :: rest) (hC : AC G (aRm d' mc' ms') M' (.ref k :: As) (some L) shp D (aQv shp2 K')) (hfr : fr = some n0) (hL : shp.length = L) (hsz : n0 + kc = L) (hf : aFit d' d M' = true) (hcat : (rest.map (fun v => v.category)).sum ≤ 8) (hk1 : kc + mc' = kn) (hk2 : ks + ms' = kn2) (hkc : kn ≤ mc) (hks : kn2 ≤ ms) (hd : decode (aMb M) pc = .ok (.invokespecial idx, 3)) (hn : pc + 3 = n)
    (K : ∀ (D' : aD), K' D' → AW G (aRm d mc ms) M fr kn kn2 n al rest shp2 D' Q) : AW G (aRm d mc ms) M fr kc ks pc al st shp D Q := by
  have hLk := hLk0.1
  have hnp : (parseMethodDescriptor (aMn M').desc).map (fun d => d.parameters.length) = some As.length := by rw [hAs]; exact hLk0.2
  subst hL; subst hn; subst hst; subst hk1; subst hk2
  intro p e s m args below meth c H locs ls F hH hS hl T hT X
  obtain ⟨⟨host, g1⟩, g2, g4, g5, g6, g7, g8⟩ := hLk
  have hsz := aFr_at (G := G) (D := D) (Or.inr ⟨rfl, n0, hfr, hsz⟩) F.2.2.2.2.2.2.2.2.2.2.2.2 X (by rw [hT]; exact hH)
  have hT' : T.heap = H := hT
  have hws : ∀ w ∈ aWs M', w ∈ aU := aWs_in (by rw [g6]; exact g5)
  revert T
  intro T hT X hsz hT'
  rw [map_rev]
  refine aw_of_run (Q' := aQv shp2 K') (fun T hT X => Or.inl (va_runIN (As := As.map (av G)) (rest := rest.map (av G)) (n := As.length) (maxL := aMl M') (bytes := aMb M') (b := gAd G k) (Ts := aU) (cc := aMb M) (nL := aMl M) ⟨F.1, F.2.1, F.2.2.1, F.2.2.2.1, F.2.2.2.2.1⟩ hC.met ⟨va_cnB As.length F.2.2.2.2.1 (goodAll hws) (by rw [← g6]; rfl) rfl rfl (va_Nw.warmM F.2.2.2.2.2.2.2.1 g1) (F.2.2.2.2.1 _ g4) ⟨g8.1, g8.2, hnp⟩ (aFit_ok hf), g7, F.2.2.2.2.1 _ g2⟩ ⟨aPc_blind, fun U hU hW => ⟨rfl, State.WarmedH.trans F.2.2.2.2.2.2.2.1 hW, by rw [hU]; exact hH, fun n0 h0 => by rw [hU, ← hT']; exact hsz n0 h0⟩⟩ rfl (by simp) hl.1 rfl (lv_room (by rw [cat_map]; exact hcat)) hd ⟨hkc, hks⟩ T hT X)) hS (fun v shp' D' H1 locs1 hQ hH1 hS1 => ?_) (fun E q ce shp' D' H1 locs1 hQ hH1 hS1 hce hv hcl => ?_) T hT X
  · obtain ⟨e0, rfl, hk⟩ := hQ
    cases e0
    exact K D' hk p e s m args below meth c H1 locs1 ls F hH1 hS1 hl
  · obtain ⟨e0, -⟩ := hQ; cases e0
theorem aw_aastoreS {k m9 w : Nat} {rs : List (Option Nat)} {i : Int32} {shp' : List aSh} (hG : gOK G) (hw : w < 13) (hs : shp[k]? = some (.inl (5, m9, rs))) (hi : vp_in i m9) (hr : i.toNatClampNeg < rs.length) (hs' : shp' = shp.set k (.inl (5, m9, rs.set i.toNatClampNeg (some (10000 + w))))) (hd : decode (aMb M) pc = .ok (.aastore, 1)) (hn : pc + 1 = n) (K : AW G R M fr kc ks n al st shp' D Q) : AW G R M fr kc ks pc al (.ref (10000 + w) :: .int i :: .ref k :: st) shp D Q := by
  subst hn; subst hs'
  intro p e s m args below meth c H locs ls F hH hS hl
  have hrec : ∃ cell : Cell, H[gAd G (10000 + w)]? = some cell ∧ cell.vm.isStatics = false ∧ s.vm.findClass "java/lang/String" = some cell.cls := by
    rw [gAd_K (Nat.lt_trans hw (by decide : 13 < 10000))]
    obtain ⟨cell, h1, h2, h3, -⟩ := (va_O.moved F.2.2.2.2.2.2.2.1.alike ((hG.2.2.2.2.2.1 w hw).1.kept (fun a h1 _ => F.2.2.2.2.2.2.2.2.2.1 a h1))).kept hS.2.1
    exact ⟨cell, h1, h2, h3⟩
  refine vb_astq (D := gD G) (cl := vwCl) (tys := gTy G) (ws := aW G shp D) F.1 F.2.1 (gK_at hG.1 F.2.2.2.2.2.2.2.1) hH.2.1 (aW_D hH.1) hS k 5 (aW_refs hs (by decide)) rfl hrec (fun comp c0 h1 h2 => by cases Option.some.inj (h1.symm.trans h2); exact va_asg _ _) hi hd (fun H1 locs1 hP hD hS1 => ?_)
  rw [aW_setQ hs (by decide) hr] at hP
  exact K p e s m args below meth c H1 locs1 ls F (aH_up (by rw [List.length_set]; exact hH.1) hP hS1 F.2.2.2.2.2.2.2.2.1 F.2.2.2.2.2.2.2.2.2.1) hS1 hl
end FRESH
