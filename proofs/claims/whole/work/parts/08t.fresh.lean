section FRESH
variable {G : aG} {M : aM} {fr : Option Nat} {R : Room} {kc ks pc n : Nat} {al : List (Option Value)} {st : List Value} {shp : List aSh} {D : aD} {Q : aQ}
/-- a new cell holds zeros -/
def z0 (D : aD) (k : Nat) : aD := (fun k' => if k' = k then fun _ => 0 else D.1 k', fun k' => if k' = k then fun _ => 0 else D.2 k')
theorem aC_z0 {k i : Nat} (h : i ≠ k) (c : aSh) : aC G (z0 D k) i c = aC G D i c := by
  cases c with
  | inl a => simp [aC, z0, h]
  | inr o =>
    simp only [aC]
    have e : (fun (j' : Nat) (f : aFS) => aF G (z0 D k) i j' f) = fun (j' : Nat) (f : aFS) => aF G D i j' f := by
      funext j' f
      cases f <;> simp [aF, z0, h]
    rw [e]
theorem aW_app {c : aSh} : aW G (shp ++ [c]) (z0 D shp.length) = aW G shp D ++ [(gAd G shp.length, aC G (z0 D shp.length) shp.length c)] := by
  refine List.ext_getElem? (fun i => ?_)
  simp only [aW, List.getElem?_mapIdx, List.getElem?_append, List.length_mapIdx]
  by_cases h : i < shp.length
  · rw [if_pos h, if_pos h]
    cases hs : shp[i]? with
    | none => rfl
    | some c' => simp only [Option.map_some]; rw [aC_z0 (by omega)]
  · rw [if_neg h, if_neg h]
    by_cases h2 : i = shp.length
    · subst h2; simp
    · have h3 : ¬ i - shp.length = 0 := by omega
      cases h4 : i - shp.length with
      | zero => exact absurd h4 h3
      | succ j => simp
def aDv : aFS → Value
  | none => .int 0
  | some _ => .null
theorem aF_z0 {k j : Nat} {f : aFS} (h : f = none ∨ f = some none) : aF G (z0 D k) k j f = aDv f := by
  rcases h with rfl | rfl
  · simp [aF, z0, aDv]
  · rfl
def aNF (fs : List aFS) : Prop := ∀ f ∈ fs, f = none ∨ f = some none
theorem aF_new {k : Nat} {fs : List aFS} (h : aNF fs) : fs.mapIdx (fun j f => aF G (z0 D k) k j f) = fs.map aDv := by
  refine List.ext_getElem? (fun i => ?_)
  rw [List.getElem?_mapIdx, List.getElem?_map]
  cases hf : fs[i]? with
  | none => rfl
  | some f => simp only [Option.map_some]; rw [aF_z0 (h f (List.mem_of_getElem? hf))]
theorem aH_new {H H1 : Heap} {e : aSh} {s : State} {locs : List Loc} {shp' : List aSh} (hH : aH G shp D H) (hl : shp.length < 10000) (hS : va_S (aA G) s.heap H locs) (hz : H.size = glo G + shp.length) (z1 : H1.size = glo G + shp.length + 1) (o1 : ∀ q, q < glo G + shp.length → H1[q]? = H[q]?) (hs : shp' = shp ++ [e]) (he : va_at (gD G) vwCl (glo G + shp.length, aC G (z0 D shp.length) shp.length e) H1) : aH G shp' (z0 D shp.length) H1 ∧ va_S (aA G) s.heap H1 locs := by
  subst hs
  refine ⟨⟨?_, ?_, fun q hq => ?_, by omega⟩, ⟨Nat.le_trans hS.1 (by omega), fun x h1 h2 => (o1 x (by have := hS.1; omega)).trans (hS.2.1 x h1 h2), hS.2.2⟩⟩
  · rw [List.length_append, List.length_singleton]; omega
  · rw [aW_app]
    refine (hH.2.1.kept (fun k x hx => o1 x.1 (by have := (hH.2.1 k x hx).lt; omega))).app (fun k x hx => ?_)
    have hz9 : k < 1 := (List.getElem?_eq_some_iff.mp hx).1
    rw [show k = 0 by omega] at hx
    cases hx
    rw [gAd_lo hl]
    exact he
  · rw [o1 q (by omega)]
    exact hH.2.2.1 q hq
theorem av_new (hl : shp.length < 10000) : ((Value.ref shp.length :: st).map (av G)) = .ref (glo G + shp.length) :: st.map (av G) := by
  simp only [List.map_cons, av, gAd_lo hl]
theorem aw_new {idx ci N n0 : Nat} {C : String} {T : u_T} {fs : List aFS} {shp' : List aSh} (ty : Nat → FieldType) (hK0 : va_K (gD G) vwCl (gTy G) (gs G)) (hfr : fr = some n0) (hsz : n0 + kc = shp.length) (hl : shp.length < 10000) (hc : vwCl[ci]? = some (C, T, N)) (hw : ∀ w ∈ u_ws C T N, w ∈ aU) (hty : ∀ k, k < N → parseFieldDescriptor (T k).2.2.1 = some (ty k)) (hfs : ∀ j, j < N → defaultValue (ty j) = vp_V (fs.map aDv) j) (hnf : aNF fs) (g1 : Cond.classLink (aMo M) idx C ∈ aU) (g2 : Cond.instantiable C N ∈ aU) (g3 : Cond.initialized C ∈ aU) (hcells : kc + 1 ≤ R.cells) (hslots : ks + N ≤ R.slots) (hd : decode (aMb M) pc = .ok (.new idx, 3)) (hn : pc + 3 = n) (hs' : shp' = shp ++ [.inr (ci, fs)]) (K : AW G R M fr (kc + 1) (ks + N) n al (.ref shp.length :: st) shp' (z0 D shp.length) Q) : AW G R M fr kc ks pc al st shp D Q := by
  subst hn
  intro p e s m args below meth c H locs ls F hH hS hl2 T9 hT X
  have hz : H.size = glo G + shp.length := by
    have h9 := aH_size X (by rw [hT]; exact hH) (F.2.2.2.2.2.2.2.2.2.2.2.2 n0 hfr) hsz
    rw [hT] at h9; exact h9
  have hKn := (gK_at hK0 F.2.2.2.2.2.2.2.1).1 ci _ hc
  refine W.newcK (g := F0 m pc ls (st.map (av G))) F.1 F.2.1 F.2.2.2.1 (F.2.2.2.2.1 _ g1) (F.2.2.2.2.1 _ g2) (F.2.2.2.2.1 _ g3) rfl hd hcells hslots hKn.2.1 hz (fun H1 kC hkC e1 z1 o1 => ?_) T9 hT X
  obtain ⟨h1, h2⟩ := aH_new (e := .inr (ci, fs)) hH hl hS hz z1 o1 hs' (by
    show va_at (gD G) vwCl (glo G + shp.length, .inr (ci, fs.mapIdx (fun j f => aF G (z0 D shp.length) shp.length j f))) H1
    rw [aF_new hnf]
    exact ⟨_, hc, (u_born ty (fun w hw2 => F.2.2.2.2.1 w hw2) hw hKn hkC e1 hty).to hfs⟩)
  have h9 := K p e s m args below meth c H1 locs ls F h1 h2 hl2
  rw [av_new hl] at h9
  exact h9
theorem aw_newa {t N n0 : Nat} {nn : Int32} {ty : FieldType} {atype : ArrayType} {shp' : List aSh} (hK0 : va_K (gD G) vwCl (gTy G) (gs G)) (hfr : fr = some n0) (hsz : n0 + kc = shp.length) (hl : shp.length < 10000) (harr : Cond.arrayClass (newarray.typeOf atype) ∈ aU) (hty : newarray.typeOf atype = ty) (hg : (gTy G)[t]? = some (gcy G t, ty)) (hra : ∀ (U : State) (cA : ClassId), va_RA U cA ty → U.vm.findClass ("[" ++ ty.toString) = some cA) (hcell : ∀ (cA : ClassId) (D : aD) (k : Nat), va_at (gD G) vwCl (glo G + k, aC G (z0 D k) k (.inl (t, N, []))) = fun H : Heap => H[glo G + k]? = some (arrV (gcy G t) N (fun _ => defaultValue ty))) (hnn : ¬ nn < 0) (hN : nn.toNatClampNeg = N) (hb : N * componentBytes ty ≤ 536870912) (hcells : kc + 1 ≤ R.cells) (hslots : ks + N ≤ R.slots) (hd : decode (aMb M) pc = .ok (.newarray atype, 2)) (hn : pc + 2 = n) (hs' : shp' = shp ++ [.inl (t, N, [])]) (K : AW G R M fr (kc + 1) (ks + N) n al (.ref shp.length :: st) shp' (z0 D shp.length) Q) : AW G R M fr kc ks pc al (.int nn :: st) shp D Q := by
  subst hn; subst hty
  intro p e s m args below meth c H locs ls F hH hS hl2 T9 hT X
  have hz : H.size = glo G + shp.length := by
    have h9 := aH_size X (by rw [hT]; exact hH) (F.2.2.2.2.2.2.2.2.2.2.2.2 n0 hfr) hsz
    rw [hT] at h9; exact h9
  refine va_newaK (g := F0 m pc ls (.int nn :: st.map (av G))) F.1 F.2.1 (F.2.2.2.2.1 _ harr) rfl hd rfl hnn hN hb hcells hslots hz (fun H1 cA e1 z1 o1 hAr hNm => ?_) T9 hT X
  have hcA : cA = gcy G t := Option.some.inj (hNm.symm.trans (hra s _ ((gK_at hK0 F.2.2.2.2.2.2.2.1).2 t _ hg).2))
  subst hcA
  obtain ⟨h1, h2⟩ := aH_new (e := .inl (t, N, [])) hH hl hS hz z1 o1 hs' (by rw [hcell (gcy G t)]; exact e1)
  have h9 := K p e s m args below meth c H1 locs ls F h1 h2 hl2
  rw [av_new hl] at h9
  exact h9
theorem aw_objInit {idx k : Nat} (g1 : Cond.methodLink (aMo M) idx Lib.objectInit ∈ aU) (g2 : Cond.instanceMethod Lib.objectInit ∈ aU) (g3 : Cond.code Lib.objectInit ⟨#[0xb1]⟩ 1 none ∈ aU) (hf : 1 ≤ R.frames) (hlo : (st.map fun v => v.category).sum + 12 ≤ R.locals) (hd : decode (aMb M) pc = .ok (.invokespecial idx, 3)) (hn : pc + 3 = n) (K : AW G R M fr kc ks n al st shp D Q) : AW G R M fr kc ks pc al (.ref k :: st) shp D Q := by
  subst hn
  intro p e s m args below meth c H locs ls F hH hS hl
  exact W.objInit F.1 F.2.1 F.2.2.2.1 (F.2.2.2.2.1 _ g1) (F.2.2.2.2.1 _ g2) (F.2.2.2.2.1 _ g3) rfl (by rw [F.2.2.1]; exact hl.1) rfl hd hf (by
    show 2 * 0 + ((st.map (av G)).map fun v => v.category).sum + 12 ≤ R.locals
    rw [cat_map, Nat.mul_zero, Nat.zero_add]; exact hlo) (K p e s m args below meth c H locs ls F hH hS hl)
end FRESH
