section LAWR
variable {G : aG} {M : aM} {fr : Option Nat} {R : Room} {kc ks pc n : Nat} {al : List (Option Value)} {st : List Value} {shp : List aSh} {D : aD} {Q : aQ}
def aWx (M : aM) : List Cond := Cond.codeWith (aMn M) (aMb M) (aMl M) (aMr M) (aMt M) :: aU
def ACx (G : aG) (R : Room) (M : aM) (args : List Value) (fr : Option Nat) (shp : List aSh) (D : aD) (Q : aQ) : Prop := vx_Met (gl G) (aMn M) (aWx M) R (aPc G args fr shp D) (aQc G Q) (aXc G Q) R.cells R.slots (aA G)
theorem ACx.of {args0 : List Value} {r : Nat} (hy : plainName (aMo M) = true) (hlen : (lg_sl (args0.map (av G))).length ≤ aMl M) (hal : al = aEn args0 ++ List.replicate r none) (K : AW G R M fr 0 0 0 al [] shp D Q) : ACx G R M args0 fr shp D Q := by
  subst hal
  refine vx_ofWH (cc := aMb M) (maxL := aMl M) (ret := aMr M) (hh := aMt M) (ws' := aU) hy rfl ?_
  intro p e s m a below meth c s₁ B hml hP
  obtain ⟨rfl, hvm, hH, hfr⟩ := hP
  have hts := atoms_spec (ws := aWx M) B.pre
  have hcw := hts _ List.mem_cons_self
  obtain ⟨m9, meth9, c9, hn9, h1, h2, -, -, h6, -⟩ := Cond.codeWith_spec hcw
  cases Option.some.inj (hn9.symm.trans B.named)
  cases Option.some.inj (h1.symm.trans B.method)
  cases Option.some.inj (h2.symm.trans (Stand.of_body B).code)
  rw [lg_entry_eq]
  refine K p e s m _ below meth c s.heap [] _ ⟨B.exec, B.bytes, hml, findClass_of_methodNamed B.named, fun w hw => hts w (List.mem_cons_of_mem _ hw), B.returns, B.notSynchronized, hvm, hH.2.2.2, hH.2.2.1, h6, (name_of_methodNamed B.named B.method).1, hfr⟩ hH va_S.rf ?_
  have h9 := lv_entry (args0.map (av G)) (n := aMl M) hlen
  refine ⟨h9.1, h9.2.1, fun q hq => ?_⟩
  obtain ⟨⟨j, w⟩, hj, rfl⟩ := List.mem_map.mp hq
  refine h9.2.2 _ ?_
  rw [lv_args_av]
  refine List.mem_map.mpr ⟨(j, w), ?_, rfl⟩
  have h1 := aL_mem.mp hj
  by_cases hlt : j < (aEn args0).length
  · rw [List.getElem?_append_left hlt] at h1
    have := aEn_ok args0 0 j w h1
    rwa [Nat.zero_add] at this
  · rw [List.getElem?_append_right (by omega)] at h1
    have := List.eq_of_mem_replicate (List.mem_of_getElem? h1)
    cases this
theorem AX.catch0 {E : String} {a b hp ct : Nat} {suf : List (Nat × Nat × Nat × Nat)} (hE : gEx G) (hT : aMt M = (a, b, hp, ct) :: suf) (hx : covers { startPc := a, endPc := b, handlerPc := hp, catchType := ct } pc = true) (h0 : ct ≠ 0) (g1 : Cond.classLink (aMo M) ct E ∈ aU) (g2 : Cond.castable E E ∈ exSp) (K : ∀ q : Nat, AW G R M fr kc ks hp al [.ref (40000 + q)] shp D Q) : AX G R M fr kc ks pc al st shp D Q E := by
  intro p e s m args below meth c H locs ls F hH hS hl q ce hce hv hcl
  have ht : c.exceptionTable.toList = tableOf (aMt M) := by rw [← F.2.2.2.2.2.2.2.2.2.2.1, table_eq]
  have h9 := K q p e s m args below meth c H locs ls F hH hS hl
  have hq2 : (([.ref (40000 + q)] : List Value).map (av G)) = [.ref q] := by simp only [List.map_cons, List.map_nil, av, gAd_X]
  rw [hq2] at h9
  exact vx_catch F.2.2.2.1 [] { startPc := a, endPc := b, handlerPc := hp, catchType := ct } (tableOf suf) (by rw [ht, hT]; rfl) (fun z hz => by cases hz) hx h0 (F.2.2.2.2.1 _ g1) (exSp_at hE F.2.2.2.2.2.2.2.1 _ g2) hce hv hcl h9
theorem AX.catch1 {E E1 : String} {a b hp ct a1 b1 hp1 ct1 : Nat} {suf : List (Nat × Nat × Nat × Nat)} (hE : gEx G) (hN : va_Nc E E1 (gs G)) (hT : aMt M = (a1, b1, hp1, ct1) :: (a, b, hp, ct) :: suf) (hx : covers { startPc := a, endPc := b, handlerPc := hp, catchType := ct } pc = true) (h0 : ct ≠ 0) (h1 : ct1 ≠ 0) (g0 : Cond.classLink (aMo M) ct1 E1 ∈ aU) (g1 : Cond.classLink (aMo M) ct E ∈ aU) (g2 : Cond.castable E E ∈ exSp) (K : ∀ q : Nat, AW G R M fr kc ks hp al [.ref (40000 + q)] shp D Q) : AX G R M fr kc ks pc al st shp D Q E := by
  intro p e s m args below meth c H locs ls F hH hS hl q ce hce hv hcl
  have ht : c.exceptionTable.toList = tableOf (aMt M) := by rw [← F.2.2.2.2.2.2.2.2.2.2.1, table_eq]
  have h9 := K q p e s m args below meth c H locs ls F hH hS hl
  have hq2 : (([.ref (40000 + q)] : List Value).map (av G)) = [.ref q] := by simp only [List.map_cons, List.map_nil, av, gAd_X]
  rw [hq2] at h9
  exact vx_catch F.2.2.2.1 [{ startPc := a1, endPc := b1, handlerPc := hp1, catchType := ct1 }] { startPc := a, endPc := b, handlerPc := hp, catchType := ct } (tableOf suf) (by rw [ht, hT]; rfl) (fun z hz => by
    rw [List.mem_singleton] at hz
    subst hz
    exact Or.inr ⟨h1, E1, F.2.2.2.2.1 _ g0, va_Nc.moved F.2.2.2.2.2.2.2.1.alike hN⟩) hx h0 (F.2.2.2.2.1 _ g1) (exSp_at hE F.2.2.2.2.2.2.2.1 _ g2) hce hv hcl h9
/-- a helper's answer: 1 or 2 for what was thrown, 0 and the number laid into the row of one long -/
def aHp (o : Option ((String ⊕ Int32) × aD)) (E1 E2 : String) : Option (Int32 × aD) := o.bind (fun r => match r.1 with
  | .inl E => if E = E1 then some (1, r.2) else if E = E2 then some (2, r.2) else none
  | .inr y => some (0, pJ r.2 132 0 y.toInt64))
theorem Ok.hp {o : Option ((String ⊕ Int32) × aD)} {E1 E2 : String} {K : Int32 → aD → Prop} (h : Ok2 (aHp o E1 E2) K) : Ok2 o (fun q D => (∀ E, q = .inl E → (E = E1 ∧ K 1 D) ∨ (E = E2 ∧ K 2 D)) ∧ ∀ y, q = .inr y → K 0 (pJ D 132 0 y.toInt64)) := by
  obtain ⟨⟨q, D⟩, e, h⟩ := Ok.bind (Ok2.ok h)
  refine ⟨q, D, e, fun E hE => ?_, fun y hy => ?_⟩
  · subst hE
    have h' : Ok (if E = E1 then some ((1 : Int32), D) else if E = E2 then some ((2 : Int32), D) else none) (fun r => K r.1 r.2) := h
    by_cases c : E = E1
    · exact Or.inl ⟨c, (Ok.dn (Ok.ift h' c) :)⟩
    · replace h' := Ok.iff h' c
      by_cases c2 : E = E2
      · exact Or.inr ⟨c2, (Ok.dn (Ok.ift h' c2) :)⟩
      · obtain ⟨a, e, -⟩ := Ok.iff h' c2
        cases e
  · subst hy
    have h' : Ok (some ((0 : Int32), pJ D 132 0 y.toInt64)) (fun r => K r.1 r.2) := h
    exact (Ok.dn h' :)
/-- the same, for a helper that catches one class alone -/
def aHp1 (o : Option ((String ⊕ Int32) × aD)) (E1 : String) : Option (Int32 × aD) := o.bind (fun r => match r.1 with
  | .inl E => if E = E1 then some (1, r.2) else none
  | .inr y => some (0, pJ r.2 132 0 y.toInt64))
theorem Ok.hp1 {o : Option ((String ⊕ Int32) × aD)} {E1 : String} {K : Int32 → aD → Prop} (h : Ok2 (aHp1 o E1) K) : Ok2 o (fun q D => (∀ E, q = .inl E → E = E1 ∧ K 1 D) ∧ ∀ y, q = .inr y → K 0 (pJ D 132 0 y.toInt64)) := by
  obtain ⟨⟨q, D⟩, e, h⟩ := Ok.bind (Ok2.ok h)
  refine ⟨q, D, e, fun E hE => ?_, fun y hy => ?_⟩
  · subst hE
    have h' : Ok (if E = E1 then some ((1 : Int32), D) else none) (fun r => K r.1 r.2) := h
    by_cases c : E = E1
    · exact ⟨c, (Ok.dn (Ok.ift h' c) :)⟩
    · obtain ⟨a, e, -⟩ := Ok.iff h' c
      cases e
  · subst hy
    have h' : Ok (some ((0 : Int32), pJ D 132 0 y.toInt64)) (fun r => K r.1 r.2) := h
    exact (Ok.dn h' :)
theorem aw_hV {M' : aM} {idx ci k np d' d mc ms mc' ms' kn kn2 : Nat} {As rest : List Value} {fs : List aFS} {KE : String → aD → Prop} {Kc : Int32 → aD → Prop} (hK0 : va_K (gD G) vwCl (gTy G) (gs G)) (hLk : aLkV (aMo M) idx ci M' ∧ aNp M' = some np) (hAs : As.length = np) (hst : st = As.reverse ++ .ref k :: rest) (hs : shp[k]? = some (.inr (ci, fs))) (hC : AC G (aRm d' mc' ms') M' (.ref k :: As) none shp D (aQxi shp (fun q D => (∀ E, q = .inl E → KE E D) ∧ ∀ y, q = .inr y → Kc y D))) (hR : aFit d' d M' = true) (hcat : (rest.map (fun v => v.category)).sum ≤ 8) (hk1 : kc + mc' = kn) (hk2 : ks + ms' = kn2) (hkc : kn ≤ mc) (hks : kn2 ≤ ms) (hd : decode (aMb M) pc = .ok (.invokevirtual idx, 3)) (hn : pc + 3 = n) (KX : ∀ (E : String) (D' : aD), KE E D' → AX G (aRm d mc ms) M fr kn kn2 pc al rest shp D' Q E) (K : ∀ (r : Int32) (D' : aD), Kc r D' → AW G (aRm d mc ms) M fr kn kn2 n al (.int r :: rest) shp D' Q) : AW G (aRm d mc ms) M fr kc ks pc al st shp D Q := by
  subst hk1; subst hk2
  refine aw_callV0 (R' := aRm d' mc' ms') (rest := rest) hK0 hLk.1 (by rw [hAs]; exact hLk.2) hst hs hC (aFit_ok hR).1 (aFit_ok hR).2 hcat hkc hks (Or.inl rfl) hd hn (fun E shp' D' hq => ?_) (fun v shp' D' hq => ?_)
  · obtain ⟨rfl, hq⟩ := hq
    rcases hq with ⟨r, e, -⟩ | ⟨E', e, hk⟩
    · cases e
    · cases e; exact KX E D' (hk.1 E rfl)
  · obtain ⟨rfl, hq⟩ := hq
    rcases hq with ⟨r, e, hk⟩ | ⟨E', e, hk⟩
    · cases e; exact K r D' (hk.2 _ rfl)
    · cases e
end LAWR
theorem lc_13 : Cond.classLink "NoseTownLaw" 13 "java/lang/IllegalArgumentException" ∈ aU := aU_4 42 rfl rfl
theorem lc_18 : Cond.classLink "NoseTownLaw" 18 "java/util/NoSuchElementException" ∈ aU := aU_5 48 rfl rfl
theorem cs_I : Cond.castable "java/lang/IllegalArgumentException" "java/lang/IllegalArgumentException" ∈ exSp := by simp [exSp, exI]
theorem cs_N : Cond.castable "java/util/NoSuchElementException" "java/util/NoSuchElementException" ∈ exSp := by simp [exSp, exN]
def M_L_town : aM := (yL_town, cL_town, 4, some .int,  [(0, 9, 12, 13)])
theorem dL_town_0 : decode cL_town 0 = .ok (.aload_n 2, 1) := by decide +kernel
theorem dL_town_1 : decode cL_town 1 = .ok (.iconst 0, 1) := by decide +kernel
theorem dL_town_2 : decode cL_town 2 = .ok (.aload_n 0, 1) := by decide +kernel
theorem dL_town_3 : decode cL_town 3 = .ok (.iload_n 1, 1) := by decide +kernel
theorem dL_town_4 : decode cL_town 4 = .ok (.invokevirtual 7, 3) := by decide +kernel
theorem dL_town_7 : decode cL_town 7 = .ok (.i2l, 1) := by decide +kernel
theorem dL_town_8 : decode cL_town 8 = .ok (.lastore, 1) := by decide +kernel
theorem dL_town_9 : decode cL_town 9 = .ok (.goto 6, 3) := by decide +kernel
theorem dL_town_12 : decode cL_town 12 = .ok (.astore_n 3, 1) := by decide +kernel
theorem dL_town_13 : decode cL_town 13 = .ok (.iconst 1, 1) := by decide +kernel
theorem dL_town_14 : decode cL_town 14 = .ok (.ireturn, 1) := by decide +kernel
theorem dL_town_15 : decode cL_town 15 = .ok (.iconst 0, 1) := by decide +kernel
theorem dL_town_16 : decode cL_town 16 = .ok (.ireturn, 1) := by decide +kernel
theorem lk_RL_7 : aLkV "NoseTownLaw" 7 11 M_X11_town ∧ aNp M_X11_town = some 1 := ⟨⟨aU_4 43 rfl rfl, aU_4 44 rfl rfl, aU_4 45 rfl rfl, aU_1 1 rfl rfl, aU_4 46 rfl rfl, ⟨TX11, 14, rfl⟩, ⟨by decide +kernel, by decide +kernel⟩⟩, by decide +kernel⟩
def f_L_town (v1 : Int32) (D : aD) : Option (Int32 × aD) := aHp1 (f_X11_town v1 D) "java/lang/IllegalArgumentException"
set_option maxRecDepth 100000 in
theorem c_L_town {G : aG} (hG : gOK G) (hN : va_Nc "java/lang/IllegalArgumentException" "java/util/NoSuchElementException" (gs G)) {shp : List aSh} (hS : aShp shp) {v1 : Int32} {D : aD} {K : Int32 → aD → Prop} (h : Ok2 (f_L_town v1 D) K) : ACx G (aRm 14 1 6) M_L_town [.ref 0, .int v1, .ref 132] none shp D (aQi shp K) := by
  unfold f_L_town at h
  replace h := Ok.hp1 h
  refine ACx.of (al := [some (.ref 0), some (.int v1), some (.ref 132), none]) (r := 1) (by decide) (Nat.le_of_ble_eq_true rfl) rfl ?_
  refine aw_aload_n (n := 1) (i := 2) dL_town_0 rfl rfl rfl ?_
  refine aw_iconst (n := 2) (v := 0) dL_town_1 rfl (by decide) ?_
  refine aw_aload_n (n := 3) (i := 0) dL_town_2 rfl rfl rfl ?_
  refine aw_iload_n (n := 4) (i := 1) dL_town_3 rfl rfl rfl ?_
  refine aw_hV (M := M_L_town) (n := 7) (As := [.int v1]) (rest := [.int 0, .ref 132]) hG.1 lk_RL_7 rfl rfl (sF_0 hS) (c_X11_town hG hS (h := h)) (by decide) (by decide) rfl rfl (by decide) (by decide) dL_town_4 rfl (fun E D h => ?_) (fun y D h => ?_)
  · obtain ⟨rfl, h⟩ := h
    refine AX.catch0 (M := M_L_town) (a := 0) (b := 9) (hp := 12) (ct := 13) hG.2.2.2.1 rfl (by decide) (by decide) lc_13 cs_I (fun q => ?_)
    refine aw_astore_n (n := 13) (i := 3) (al' := [some (.ref 0), some (.int v1), some (.ref 132), some (.ref (40000 + q))]) dL_town_12 rfl rfl rfl (by decide) rfl ?_
    refine aw_iconst (n := 14) (v := 1) dL_town_13 rfl (by decide) ?_
    exact aw_iret rfl (by decide) (by decide) dL_town_14 ⟨_, rfl, rfl, h⟩
  · refine aw_i2l (n := 8) dL_town_7 rfl ?_
    refine aw_lastore (n := 9) hG.1 (sF_132 hS) (aIn_in (i := 0) (n := 1) rfl) rfl dL_town_8 rfl ?_
    refine aw_goto (tgt := 15) dL_town_9 (by decide) ?_
    refine aw_iconst (n := 16) (v := 0) dL_town_15 rfl (by decide) ?_
    exact aw_iret rfl (by decide) (by decide) dL_town_16 ⟨_, rfl, rfl, h⟩
def M_L_count : aM := (yL_count, cL_count, 4, some .int,  [(0, 9, 12, 18)])
theorem dL_count_0 : decode cL_count 0 = .ok (.aload_n 2, 1) := by decide +kernel
theorem dL_count_1 : decode cL_count 1 = .ok (.iconst 0, 1) := by decide +kernel
theorem dL_count_2 : decode cL_count 2 = .ok (.aload_n 0, 1) := by decide +kernel
theorem dL_count_3 : decode cL_count 3 = .ok (.iload_n 1, 1) := by decide +kernel
theorem dL_count_4 : decode cL_count 4 = .ok (.invokevirtual 15, 3) := by decide +kernel
theorem dL_count_7 : decode cL_count 7 = .ok (.i2l, 1) := by decide +kernel
theorem dL_count_8 : decode cL_count 8 = .ok (.lastore, 1) := by decide +kernel
theorem dL_count_9 : decode cL_count 9 = .ok (.goto 6, 3) := by decide +kernel
theorem dL_count_12 : decode cL_count 12 = .ok (.astore_n 3, 1) := by decide +kernel
theorem dL_count_13 : decode cL_count 13 = .ok (.iconst 1, 1) := by decide +kernel
theorem dL_count_14 : decode cL_count 14 = .ok (.ireturn, 1) := by decide +kernel
theorem dL_count_15 : decode cL_count 15 = .ok (.iconst 0, 1) := by decide +kernel
theorem dL_count_16 : decode cL_count 16 = .ok (.ireturn, 1) := by decide +kernel
theorem lk_RL_15 : aLkV "NoseTownLaw" 15 11 M_X11_count ∧ aNp M_X11_count = some 1 := ⟨⟨aU_5 49 rfl rfl, aU_5 50 rfl rfl, aU_5 51 rfl rfl, aU_1 1 rfl rfl, aU_5 52 rfl rfl, ⟨TX11, 14, rfl⟩, ⟨by decide +kernel, by decide +kernel⟩⟩, by decide +kernel⟩
def f_L_count (v1 : Int32) (D : aD) : Option (Int32 × aD) := aHp1 (f_X11_count v1 D) "java/util/NoSuchElementException"
set_option maxRecDepth 100000 in
theorem c_L_count {G : aG} (hG : gOK G) (hN : va_Nc "java/lang/IllegalArgumentException" "java/util/NoSuchElementException" (gs G)) {shp : List aSh} (hS : aShp shp) {v1 : Int32} {D : aD} {K : Int32 → aD → Prop} (h : Ok2 (f_L_count v1 D) K) : ACx G (aRm 8 1 6) M_L_count [.ref 0, .int v1, .ref 132] none shp D (aQi shp K) := by
  unfold f_L_count at h
  replace h := Ok.hp1 h
  refine ACx.of (al := [some (.ref 0), some (.int v1), some (.ref 132), none]) (r := 1) (by decide) (Nat.le_of_ble_eq_true rfl) rfl ?_
  refine aw_aload_n (n := 1) (i := 2) dL_count_0 rfl rfl rfl ?_
  refine aw_iconst (n := 2) (v := 0) dL_count_1 rfl (by decide) ?_
  refine aw_aload_n (n := 3) (i := 0) dL_count_2 rfl rfl rfl ?_
  refine aw_iload_n (n := 4) (i := 1) dL_count_3 rfl rfl rfl ?_
  refine aw_hV (M := M_L_count) (n := 7) (As := [.int v1]) (rest := [.int 0, .ref 132]) hG.1 lk_RL_15 rfl rfl (sF_0 hS) (c_X11_count hG hS (h := h)) (by decide) (by decide) rfl rfl (by decide) (by decide) dL_count_4 rfl (fun E D h => ?_) (fun y D h => ?_)
  · obtain ⟨rfl, h⟩ := h
    refine AX.catch0 (M := M_L_count) (a := 0) (b := 9) (hp := 12) (ct := 18) hG.2.2.2.1 rfl (by decide) (by decide) lc_18 cs_N (fun q => ?_)
    refine aw_astore_n (n := 13) (i := 3) (al' := [some (.ref 0), some (.int v1), some (.ref 132), some (.ref (40000 + q))]) dL_count_12 rfl rfl rfl (by decide) rfl ?_
    refine aw_iconst (n := 14) (v := 1) dL_count_13 rfl (by decide) ?_
    exact aw_iret rfl (by decide) (by decide) dL_count_14 ⟨_, rfl, rfl, h⟩
  · refine aw_i2l (n := 8) dL_count_7 rfl ?_
    refine aw_lastore (n := 9) hG.1 (sF_132 hS) (aIn_in (i := 0) (n := 1) rfl) rfl dL_count_8 rfl ?_
    refine aw_goto (tgt := 15) dL_count_9 (by decide) ?_
    refine aw_iconst (n := 16) (v := 0) dL_count_15 rfl (by decide) ?_
    exact aw_iret rfl (by decide) (by decide) dL_count_16 ⟨_, rfl, rfl, h⟩
def M_L_plant : aM := (yL_plant, cL_plant, 5, some .int,  [(0, 10, 13, 18)])
theorem dL_plant_0 : decode cL_plant 0 = .ok (.aload_n 3, 1) := by decide +kernel
theorem dL_plant_1 : decode cL_plant 1 = .ok (.iconst 0, 1) := by decide +kernel
theorem dL_plant_2 : decode cL_plant 2 = .ok (.aload_n 0, 1) := by decide +kernel
theorem dL_plant_3 : decode cL_plant 3 = .ok (.iload_n 1, 1) := by decide +kernel
theorem dL_plant_4 : decode cL_plant 4 = .ok (.iload_n 2, 1) := by decide +kernel
theorem dL_plant_5 : decode cL_plant 5 = .ok (.invokevirtual 20, 3) := by decide +kernel
theorem dL_plant_8 : decode cL_plant 8 = .ok (.i2l, 1) := by decide +kernel
theorem dL_plant_9 : decode cL_plant 9 = .ok (.lastore, 1) := by decide +kernel
theorem dL_plant_10 : decode cL_plant 10 = .ok (.goto 7, 3) := by decide +kernel
theorem dL_plant_13 : decode cL_plant 13 = .ok (.astore 4, 2) := by decide +kernel
theorem dL_plant_15 : decode cL_plant 15 = .ok (.iconst 1, 1) := by decide +kernel
theorem dL_plant_16 : decode cL_plant 16 = .ok (.ireturn, 1) := by decide +kernel
theorem dL_plant_17 : decode cL_plant 17 = .ok (.iconst 0, 1) := by decide +kernel
theorem dL_plant_18 : decode cL_plant 18 = .ok (.ireturn, 1) := by decide +kernel
theorem lk_RL_20 : aLkV "NoseTownLaw" 20 11 M_X11_plant ∧ aNp M_X11_plant = some 2 := ⟨⟨aU_5 75 rfl rfl, aU_5 76 rfl rfl, aU_5 77 rfl rfl, aU_1 1 rfl rfl, aU_5 78 rfl rfl, ⟨TX11, 14, rfl⟩, ⟨by decide +kernel, by decide +kernel⟩⟩, by decide +kernel⟩
def f_L_plant (v1 : Int32) (v2 : Int32) (D : aD) : Option (Int32 × aD) := aHp1 (f_X11_plant v1 v2 D) "java/util/NoSuchElementException"
set_option maxRecDepth 100000 in
theorem c_L_plant {G : aG} (hG : gOK G) (hN : va_Nc "java/lang/IllegalArgumentException" "java/util/NoSuchElementException" (gs G)) {shp : List aSh} (hS : aShp shp) {v1 : Int32} {v2 : Int32} {D : aD} {K : Int32 → aD → Prop} (h : Ok2 (f_L_plant v1 v2 D) K) : ACx G (aRm 8 1 6) M_L_plant [.ref 0, .int v1, .int v2, .ref 132] none shp D (aQi shp K) := by
  unfold f_L_plant at h
  replace h := Ok.hp1 h
  refine ACx.of (al := [some (.ref 0), some (.int v1), some (.int v2), some (.ref 132), none]) (r := 1) (by decide) (Nat.le_of_ble_eq_true rfl) rfl ?_
  refine aw_aload_n (n := 1) (i := 3) dL_plant_0 rfl rfl rfl ?_
  refine aw_iconst (n := 2) (v := 0) dL_plant_1 rfl (by decide) ?_
  refine aw_aload_n (n := 3) (i := 0) dL_plant_2 rfl rfl rfl ?_
  refine aw_iload_n (n := 4) (i := 1) dL_plant_3 rfl rfl rfl ?_
  refine aw_iload_n (n := 5) (i := 2) dL_plant_4 rfl rfl rfl ?_
  refine aw_hV (M := M_L_plant) (n := 8) (As := [.int v1, .int v2]) (rest := [.int 0, .ref 132]) hG.1 lk_RL_20 rfl rfl (sF_0 hS) (c_X11_plant hG hS (h := h)) (by decide) (by decide) rfl rfl (by decide) (by decide) dL_plant_5 rfl (fun E D h => ?_) (fun y D h => ?_)
  · obtain ⟨rfl, h⟩ := h
    refine AX.catch0 (M := M_L_plant) (a := 0) (b := 10) (hp := 13) (ct := 18) hG.2.2.2.1 rfl (by decide) (by decide) lc_18 cs_N (fun q => ?_)
    refine aw_astore (n := 15) (i := 4) (al' := [some (.ref 0), some (.int v1), some (.int v2), some (.ref 132), some (.ref (40000 + q))]) dL_plant_13 rfl rfl (by decide) rfl ?_
    refine aw_iconst (n := 16) (v := 1) dL_plant_15 rfl (by decide) ?_
    exact aw_iret rfl (by decide) (by decide) dL_plant_16 ⟨_, rfl, rfl, h⟩
  · refine aw_i2l (n := 9) dL_plant_8 rfl ?_
    refine aw_lastore (n := 10) hG.1 (sF_132 hS) (aIn_in (i := 0) (n := 1) rfl) rfl dL_plant_9 rfl ?_
    refine aw_goto (tgt := 17) dL_plant_10 (by decide) ?_
    refine aw_iconst (n := 18) (v := 0) dL_plant_17 rfl (by decide) ?_
    exact aw_iret rfl (by decide) (by decide) dL_plant_18 ⟨_, rfl, rfl, h⟩
def M_L_turn : aM := (yL_turn, cL_turn, 5, some .int,  [(0, 10, 13, 18)])
theorem dL_turn_0 : decode cL_turn 0 = .ok (.aload_n 3, 1) := by decide +kernel
theorem dL_turn_1 : decode cL_turn 1 = .ok (.iconst 0, 1) := by decide +kernel
theorem dL_turn_2 : decode cL_turn 2 = .ok (.aload_n 0, 1) := by decide +kernel
theorem dL_turn_3 : decode cL_turn 3 = .ok (.iload_n 1, 1) := by decide +kernel
theorem dL_turn_4 : decode cL_turn 4 = .ok (.iload_n 2, 1) := by decide +kernel
theorem dL_turn_5 : decode cL_turn 5 = .ok (.invokevirtual 24, 3) := by decide +kernel
theorem dL_turn_8 : decode cL_turn 8 = .ok (.i2l, 1) := by decide +kernel
theorem dL_turn_9 : decode cL_turn 9 = .ok (.lastore, 1) := by decide +kernel
theorem dL_turn_10 : decode cL_turn 10 = .ok (.goto 7, 3) := by decide +kernel
theorem dL_turn_13 : decode cL_turn 13 = .ok (.astore 4, 2) := by decide +kernel
theorem dL_turn_15 : decode cL_turn 15 = .ok (.iconst 1, 1) := by decide +kernel
theorem dL_turn_16 : decode cL_turn 16 = .ok (.ireturn, 1) := by decide +kernel
theorem dL_turn_17 : decode cL_turn 17 = .ok (.iconst 0, 1) := by decide +kernel
theorem dL_turn_18 : decode cL_turn 18 = .ok (.ireturn, 1) := by decide +kernel
theorem lk_RL_24 : aLkV "NoseTownLaw" 24 11 M_X11_turn ∧ aNp M_X11_turn = some 2 := ⟨⟨aU_5 82 rfl rfl, aU_5 83 rfl rfl, aU_5 84 rfl rfl, aU_1 1 rfl rfl, aU_5 85 rfl rfl, ⟨TX11, 14, rfl⟩, ⟨by decide +kernel, by decide +kernel⟩⟩, by decide +kernel⟩
def f_L_turn (v1 : Int32) (v2 : Int32) (D : aD) : Option (Int32 × aD) := aHp1 (f_X11_turn v1 v2 D) "java/util/NoSuchElementException"
set_option maxRecDepth 100000 in
theorem c_L_turn {G : aG} (hG : gOK G) (hN : va_Nc "java/lang/IllegalArgumentException" "java/util/NoSuchElementException" (gs G)) {shp : List aSh} (hS : aShp shp) {v1 : Int32} {v2 : Int32} {D : aD} {K : Int32 → aD → Prop} (h : Ok2 (f_L_turn v1 v2 D) K) : ACx G (aRm 8 1 6) M_L_turn [.ref 0, .int v1, .int v2, .ref 132] none shp D (aQi shp K) := by
  unfold f_L_turn at h
  replace h := Ok.hp1 h
  refine ACx.of (al := [some (.ref 0), some (.int v1), some (.int v2), some (.ref 132), none]) (r := 1) (by decide) (Nat.le_of_ble_eq_true rfl) rfl ?_
  refine aw_aload_n (n := 1) (i := 3) dL_turn_0 rfl rfl rfl ?_
  refine aw_iconst (n := 2) (v := 0) dL_turn_1 rfl (by decide) ?_
  refine aw_aload_n (n := 3) (i := 0) dL_turn_2 rfl rfl rfl ?_
  refine aw_iload_n (n := 4) (i := 1) dL_turn_3 rfl rfl rfl ?_
  refine aw_iload_n (n := 5) (i := 2) dL_turn_4 rfl rfl rfl ?_
  refine aw_hV (M := M_L_turn) (n := 8) (As := [.int v1, .int v2]) (rest := [.int 0, .ref 132]) hG.1 lk_RL_24 rfl rfl (sF_0 hS) (c_X11_turn hG hS (h := h)) (by decide) (by decide) rfl rfl (by decide) (by decide) dL_turn_5 rfl (fun E D h => ?_) (fun y D h => ?_)
  · obtain ⟨rfl, h⟩ := h
    refine AX.catch0 (M := M_L_turn) (a := 0) (b := 10) (hp := 13) (ct := 18) hG.2.2.2.1 rfl (by decide) (by decide) lc_18 cs_N (fun q => ?_)
    refine aw_astore (n := 15) (i := 4) (al' := [some (.ref 0), some (.int v1), some (.int v2), some (.ref 132), some (.ref (40000 + q))]) dL_turn_13 rfl rfl (by decide) rfl ?_
    refine aw_iconst (n := 16) (v := 1) dL_turn_15 rfl (by decide) ?_
    exact aw_iret rfl (by decide) (by decide) dL_turn_16 ⟨_, rfl, rfl, h⟩
  · refine aw_i2l (n := 9) dL_turn_8 rfl ?_
    refine aw_lastore (n := 10) hG.1 (sF_132 hS) (aIn_in (i := 0) (n := 1) rfl) rfl dL_turn_9 rfl ?_
    refine aw_goto (tgt := 17) dL_turn_10 (by decide) ?_
    refine aw_iconst (n := 18) (v := 0) dL_turn_17 rfl (by decide) ?_
    exact aw_iret rfl (by decide) (by decide) dL_turn_18 ⟨_, rfl, rfl, h⟩
def M_L_smell : aM := (yL_smell, cL_smell, 7, some .int,  [(0, 14, 17, 18)])
theorem dL_smell_0 : decode cL_smell 0 = .ok (.aload 5, 2) := by decide +kernel
theorem dL_smell_2 : decode cL_smell 2 = .ok (.iconst 0, 1) := by decide +kernel
theorem dL_smell_3 : decode cL_smell 3 = .ok (.aload_n 0, 1) := by decide +kernel
theorem dL_smell_4 : decode cL_smell 4 = .ok (.iload_n 1, 1) := by decide +kernel
theorem dL_smell_5 : decode cL_smell 5 = .ok (.iload_n 2, 1) := by decide +kernel
theorem dL_smell_6 : decode cL_smell 6 = .ok (.iload_n 3, 1) := by decide +kernel
theorem dL_smell_7 : decode cL_smell 7 = .ok (.iload 4, 2) := by decide +kernel
theorem dL_smell_9 : decode cL_smell 9 = .ok (.invokevirtual 27, 3) := by decide +kernel
theorem dL_smell_12 : decode cL_smell 12 = .ok (.i2l, 1) := by decide +kernel
theorem dL_smell_13 : decode cL_smell 13 = .ok (.lastore, 1) := by decide +kernel
theorem dL_smell_14 : decode cL_smell 14 = .ok (.goto 7, 3) := by decide +kernel
theorem dL_smell_17 : decode cL_smell 17 = .ok (.astore 6, 2) := by decide +kernel
theorem dL_smell_19 : decode cL_smell 19 = .ok (.iconst 1, 1) := by decide +kernel
theorem dL_smell_20 : decode cL_smell 20 = .ok (.ireturn, 1) := by decide +kernel
theorem dL_smell_21 : decode cL_smell 21 = .ok (.iconst 0, 1) := by decide +kernel
theorem dL_smell_22 : decode cL_smell 22 = .ok (.ireturn, 1) := by decide +kernel
theorem lk_RL_27 : aLkV "NoseTownLaw" 27 11 M_X11_smell ∧ aNp M_X11_smell = some 4 := ⟨⟨aU_5 90 rfl rfl, aU_5 91 rfl rfl, aU_5 92 rfl rfl, aU_1 1 rfl rfl, aU_5 93 rfl rfl, ⟨TX11, 14, rfl⟩, ⟨by decide +kernel, by decide +kernel⟩⟩, by decide +kernel⟩
def f_L_smell (v1 : Int32) (v2 : Int32) (v3 : Int32) (v4 : Int32) (D : aD) : Option (Int32 × aD) := aHp1 (f_X11_smell v1 v2 v3 v4 D) "java/util/NoSuchElementException"
set_option maxRecDepth 100000 in
theorem c_L_smell {G : aG} (hG : gOK G) (hN : va_Nc "java/lang/IllegalArgumentException" "java/util/NoSuchElementException" (gs G)) {shp : List aSh} (hS : aShp shp) {v1 : Int32} {v2 : Int32} {v3 : Int32} {v4 : Int32} {D : aD} {K : Int32 → aD → Prop} (h : Ok2 (f_L_smell v1 v2 v3 v4 D) K) : ACx G (aRm 10 3 18) M_L_smell [.ref 0, .int v1, .int v2, .int v3, .int v4, .ref 132] none shp D (aQi shp K) := by
  unfold f_L_smell at h
  replace h := Ok.hp1 h
  refine ACx.of (al := [some (.ref 0), some (.int v1), some (.int v2), some (.int v3), some (.int v4), some (.ref 132), none]) (r := 1) (by decide) (Nat.le_of_ble_eq_true rfl) rfl ?_
  refine aw_aload (n := 2) (i := 5) dL_smell_0 rfl rfl ?_
  refine aw_iconst (n := 3) (v := 0) dL_smell_2 rfl (by decide) ?_
  refine aw_aload_n (n := 4) (i := 0) dL_smell_3 rfl rfl rfl ?_
  refine aw_iload_n (n := 5) (i := 1) dL_smell_4 rfl rfl rfl ?_
  refine aw_iload_n (n := 6) (i := 2) dL_smell_5 rfl rfl rfl ?_
  refine aw_iload_n (n := 7) (i := 3) dL_smell_6 rfl rfl rfl ?_
  refine aw_iload (n := 9) (i := 4) dL_smell_7 rfl rfl ?_
  refine aw_hV (M := M_L_smell) (n := 12) (As := [.int v1, .int v2, .int v3, .int v4]) (rest := [.int 0, .ref 132]) hG.1 lk_RL_27 rfl rfl (sF_0 hS) (c_X11_smell hG hS (h := h)) (by decide) (by decide) rfl rfl (by decide) (by decide) dL_smell_9 rfl (fun E D h => ?_) (fun y D h => ?_)
  · obtain ⟨rfl, h⟩ := h
    refine AX.catch0 (M := M_L_smell) (a := 0) (b := 14) (hp := 17) (ct := 18) hG.2.2.2.1 rfl (by decide) (by decide) lc_18 cs_N (fun q => ?_)
    refine aw_astore (n := 19) (i := 6) (al' := [some (.ref 0), some (.int v1), some (.int v2), some (.int v3), some (.int v4), some (.ref 132), some (.ref (40000 + q))]) dL_smell_17 rfl rfl (by decide) rfl ?_
    refine aw_iconst (n := 20) (v := 1) dL_smell_19 rfl (by decide) ?_
    exact aw_iret rfl (by decide) (by decide) dL_smell_20 ⟨_, rfl, rfl, h⟩
  · refine aw_i2l (n := 13) dL_smell_12 rfl ?_
    refine aw_lastore (n := 14) hG.1 (sF_132 hS) (aIn_in (i := 0) (n := 1) rfl) rfl dL_smell_13 rfl ?_
    refine aw_goto (tgt := 21) dL_smell_14 (by decide) ?_
    refine aw_iconst (n := 22) (v := 0) dL_smell_21 rfl (by decide) ?_
    exact aw_iret rfl (by decide) (by decide) dL_smell_22 ⟨_, rfl, rfl, h⟩
def M_L_smelt : aM := (yL_smelt, cL_smelt, 8, some .int,  [(0, 16, 19, 18)])
theorem dL_smelt_0 : decode cL_smelt 0 = .ok (.aload 6, 2) := by decide +kernel
theorem dL_smelt_2 : decode cL_smelt 2 = .ok (.iconst 0, 1) := by decide +kernel
theorem dL_smelt_3 : decode cL_smelt 3 = .ok (.aload_n 0, 1) := by decide +kernel
theorem dL_smelt_4 : decode cL_smelt 4 = .ok (.iload_n 1, 1) := by decide +kernel
theorem dL_smelt_5 : decode cL_smelt 5 = .ok (.iload_n 2, 1) := by decide +kernel
theorem dL_smelt_6 : decode cL_smelt 6 = .ok (.iload_n 3, 1) := by decide +kernel
theorem dL_smelt_7 : decode cL_smelt 7 = .ok (.iload 4, 2) := by decide +kernel
theorem dL_smelt_9 : decode cL_smelt 9 = .ok (.iload 5, 2) := by decide +kernel
theorem dL_smelt_11 : decode cL_smelt 11 = .ok (.invokevirtual 31, 3) := by decide +kernel
theorem dL_smelt_14 : decode cL_smelt 14 = .ok (.i2l, 1) := by decide +kernel
theorem dL_smelt_15 : decode cL_smelt 15 = .ok (.lastore, 1) := by decide +kernel
theorem dL_smelt_16 : decode cL_smelt 16 = .ok (.goto 7, 3) := by decide +kernel
theorem dL_smelt_19 : decode cL_smelt 19 = .ok (.astore 7, 2) := by decide +kernel
theorem dL_smelt_21 : decode cL_smelt 21 = .ok (.iconst 1, 1) := by decide +kernel
theorem dL_smelt_22 : decode cL_smelt 22 = .ok (.ireturn, 1) := by decide +kernel
theorem dL_smelt_23 : decode cL_smelt 23 = .ok (.iconst 0, 1) := by decide +kernel
theorem dL_smelt_24 : decode cL_smelt 24 = .ok (.ireturn, 1) := by decide +kernel
theorem lk_RL_31 : aLkV "NoseTownLaw" 31 11 M_X11_smelt ∧ aNp M_X11_smelt = some 5 := ⟨⟨aU_5 113 rfl rfl, aU_5 114 rfl rfl, aU_5 115 rfl rfl, aU_1 1 rfl rfl, aU_5 116 rfl rfl, ⟨TX11, 14, rfl⟩, ⟨by decide +kernel, by decide +kernel⟩⟩, by decide +kernel⟩
def f_L_smelt (v1 : Int32) (v2 : Int32) (v3 : Int32) (v4 : Int32) (v5 : Int32) (D : aD) : Option (Int32 × aD) := aHp1 (f_X11_smelt v1 v2 v3 v4 v5 D) "java/util/NoSuchElementException"
set_option maxRecDepth 100000 in
theorem c_L_smelt {G : aG} (hG : gOK G) (hN : va_Nc "java/lang/IllegalArgumentException" "java/util/NoSuchElementException" (gs G)) {shp : List aSh} (hS : aShp shp) {v1 : Int32} {v2 : Int32} {v3 : Int32} {v4 : Int32} {v5 : Int32} {D : aD} {K : Int32 → aD → Prop} (h : Ok2 (f_L_smelt v1 v2 v3 v4 v5 D) K) : ACx G (aRm 10 3 18) M_L_smelt [.ref 0, .int v1, .int v2, .int v3, .int v4, .int v5, .ref 132] none shp D (aQi shp K) := by
  unfold f_L_smelt at h
  replace h := Ok.hp1 h
  refine ACx.of (al := [some (.ref 0), some (.int v1), some (.int v2), some (.int v3), some (.int v4), some (.int v5), some (.ref 132), none]) (r := 1) (by decide) (Nat.le_of_ble_eq_true rfl) rfl ?_
  refine aw_aload (n := 2) (i := 6) dL_smelt_0 rfl rfl ?_
  refine aw_iconst (n := 3) (v := 0) dL_smelt_2 rfl (by decide) ?_
  refine aw_aload_n (n := 4) (i := 0) dL_smelt_3 rfl rfl rfl ?_
  refine aw_iload_n (n := 5) (i := 1) dL_smelt_4 rfl rfl rfl ?_
  refine aw_iload_n (n := 6) (i := 2) dL_smelt_5 rfl rfl rfl ?_
  refine aw_iload_n (n := 7) (i := 3) dL_smelt_6 rfl rfl rfl ?_
  refine aw_iload (n := 9) (i := 4) dL_smelt_7 rfl rfl ?_
  refine aw_iload (n := 11) (i := 5) dL_smelt_9 rfl rfl ?_
  refine aw_hV (M := M_L_smelt) (n := 14) (As := [.int v1, .int v2, .int v3, .int v4, .int v5]) (rest := [.int 0, .ref 132]) hG.1 lk_RL_31 rfl rfl (sF_0 hS) (c_X11_smelt hG hS (h := h)) (by decide) (by decide) rfl rfl (by decide) (by decide) dL_smelt_11 rfl (fun E D h => ?_) (fun y D h => ?_)
  · obtain ⟨rfl, h⟩ := h
    refine AX.catch0 (M := M_L_smelt) (a := 0) (b := 16) (hp := 19) (ct := 18) hG.2.2.2.1 rfl (by decide) (by decide) lc_18 cs_N (fun q => ?_)
    refine aw_astore (n := 21) (i := 7) (al' := [some (.ref 0), some (.int v1), some (.int v2), some (.int v3), some (.int v4), some (.int v5), some (.ref 132), some (.ref (40000 + q))]) dL_smelt_19 rfl rfl (by decide) rfl ?_
    refine aw_iconst (n := 22) (v := 1) dL_smelt_21 rfl (by decide) ?_
    exact aw_iret rfl (by decide) (by decide) dL_smelt_22 ⟨_, rfl, rfl, h⟩
  · refine aw_i2l (n := 15) dL_smelt_14 rfl ?_
    refine aw_lastore (n := 16) hG.1 (sF_132 hS) (aIn_in (i := 0) (n := 1) rfl) rfl dL_smelt_15 rfl ?_
    refine aw_goto (tgt := 23) dL_smelt_16 (by decide) ?_
    refine aw_iconst (n := 24) (v := 0) dL_smelt_23 rfl (by decide) ?_
    exact aw_iret rfl (by decide) (by decide) dL_smelt_24 ⟨_, rfl, rfl, h⟩
def M_L_mark : aM := (yL_mark, cL_mark, 7, some .int,  [(0, 14, 17, 18)])
theorem dL_mark_0 : decode cL_mark 0 = .ok (.aload 5, 2) := by decide +kernel
theorem dL_mark_2 : decode cL_mark 2 = .ok (.iconst 0, 1) := by decide +kernel
theorem dL_mark_3 : decode cL_mark 3 = .ok (.aload_n 0, 1) := by decide +kernel
theorem dL_mark_4 : decode cL_mark 4 = .ok (.iload_n 1, 1) := by decide +kernel
theorem dL_mark_5 : decode cL_mark 5 = .ok (.iload_n 2, 1) := by decide +kernel
theorem dL_mark_6 : decode cL_mark 6 = .ok (.iload_n 3, 1) := by decide +kernel
theorem dL_mark_7 : decode cL_mark 7 = .ok (.iload 4, 2) := by decide +kernel
theorem dL_mark_9 : decode cL_mark 9 = .ok (.invokevirtual 35, 3) := by decide +kernel
theorem dL_mark_12 : decode cL_mark 12 = .ok (.i2l, 1) := by decide +kernel
theorem dL_mark_13 : decode cL_mark 13 = .ok (.lastore, 1) := by decide +kernel
theorem dL_mark_14 : decode cL_mark 14 = .ok (.goto 7, 3) := by decide +kernel
theorem dL_mark_17 : decode cL_mark 17 = .ok (.astore 6, 2) := by decide +kernel
theorem dL_mark_19 : decode cL_mark 19 = .ok (.iconst 1, 1) := by decide +kernel
theorem dL_mark_20 : decode cL_mark 20 = .ok (.ireturn, 1) := by decide +kernel
theorem dL_mark_21 : decode cL_mark 21 = .ok (.iconst 0, 1) := by decide +kernel
theorem dL_mark_22 : decode cL_mark 22 = .ok (.ireturn, 1) := by decide +kernel
theorem lk_RL_35 : aLkV "NoseTownLaw" 35 11 M_X11_mark ∧ aNp M_X11_mark = some 4 := ⟨⟨aU_5 129 rfl rfl, aU_5 130 rfl rfl, aU_5 131 rfl rfl, aU_1 1 rfl rfl, aU_5 132 rfl rfl, ⟨TX11, 14, rfl⟩, ⟨by decide +kernel, by decide +kernel⟩⟩, by decide +kernel⟩
def f_L_mark (v1 : Int32) (v2 : Int32) (v3 : Int32) (v4 : Int32) (D : aD) : Option (Int32 × aD) := aHp1 (f_X11_mark v1 v2 v3 v4 D) "java/util/NoSuchElementException"
set_option maxRecDepth 100000 in
theorem c_L_mark {G : aG} (hG : gOK G) (hN : va_Nc "java/lang/IllegalArgumentException" "java/util/NoSuchElementException" (gs G)) {shp : List aSh} (hS : aShp shp) {v1 : Int32} {v2 : Int32} {v3 : Int32} {v4 : Int32} {D : aD} {K : Int32 → aD → Prop} (h : Ok2 (f_L_mark v1 v2 v3 v4 D) K) : ACx G (aRm 10 3 18) M_L_mark [.ref 0, .int v1, .int v2, .int v3, .int v4, .ref 132] none shp D (aQi shp K) := by
  unfold f_L_mark at h
  replace h := Ok.hp1 h
  refine ACx.of (al := [some (.ref 0), some (.int v1), some (.int v2), some (.int v3), some (.int v4), some (.ref 132), none]) (r := 1) (by decide) (Nat.le_of_ble_eq_true rfl) rfl ?_
  refine aw_aload (n := 2) (i := 5) dL_mark_0 rfl rfl ?_
  refine aw_iconst (n := 3) (v := 0) dL_mark_2 rfl (by decide) ?_
  refine aw_aload_n (n := 4) (i := 0) dL_mark_3 rfl rfl rfl ?_
  refine aw_iload_n (n := 5) (i := 1) dL_mark_4 rfl rfl rfl ?_
  refine aw_iload_n (n := 6) (i := 2) dL_mark_5 rfl rfl rfl ?_
  refine aw_iload_n (n := 7) (i := 3) dL_mark_6 rfl rfl rfl ?_
  refine aw_iload (n := 9) (i := 4) dL_mark_7 rfl rfl ?_
  refine aw_hV (M := M_L_mark) (n := 12) (As := [.int v1, .int v2, .int v3, .int v4]) (rest := [.int 0, .ref 132]) hG.1 lk_RL_35 rfl rfl (sF_0 hS) (c_X11_mark hG hS (h := h)) (by decide) (by decide) rfl rfl (by decide) (by decide) dL_mark_9 rfl (fun E D h => ?_) (fun y D h => ?_)
  · obtain ⟨rfl, h⟩ := h
    refine AX.catch0 (M := M_L_mark) (a := 0) (b := 14) (hp := 17) (ct := 18) hG.2.2.2.1 rfl (by decide) (by decide) lc_18 cs_N (fun q => ?_)
    refine aw_astore (n := 19) (i := 6) (al' := [some (.ref 0), some (.int v1), some (.int v2), some (.int v3), some (.int v4), some (.ref 132), some (.ref (40000 + q))]) dL_mark_17 rfl rfl (by decide) rfl ?_
    refine aw_iconst (n := 20) (v := 1) dL_mark_19 rfl (by decide) ?_
    exact aw_iret rfl (by decide) (by decide) dL_mark_20 ⟨_, rfl, rfl, h⟩
  · refine aw_i2l (n := 13) dL_mark_12 rfl ?_
    refine aw_lastore (n := 14) hG.1 (sF_132 hS) (aIn_in (i := 0) (n := 1) rfl) rfl dL_mark_13 rfl ?_
    refine aw_goto (tgt := 21) dL_mark_14 (by decide) ?_
    refine aw_iconst (n := 22) (v := 0) dL_mark_21 rfl (by decide) ?_
    exact aw_iret rfl (by decide) (by decide) dL_mark_22 ⟨_, rfl, rfl, h⟩
def M_L_sum : aM := (yL_sum, cL_sum, 5, some .int,  [(0, 10, 13, 18)])
theorem dL_sum_0 : decode cL_sum 0 = .ok (.aload_n 3, 1) := by decide +kernel
theorem dL_sum_1 : decode cL_sum 1 = .ok (.iconst 0, 1) := by decide +kernel
theorem dL_sum_2 : decode cL_sum 2 = .ok (.aload_n 0, 1) := by decide +kernel
theorem dL_sum_3 : decode cL_sum 3 = .ok (.iload_n 1, 1) := by decide +kernel
theorem dL_sum_4 : decode cL_sum 4 = .ok (.iload_n 2, 1) := by decide +kernel
theorem dL_sum_5 : decode cL_sum 5 = .ok (.invokevirtual 38, 3) := by decide +kernel
theorem dL_sum_8 : decode cL_sum 8 = .ok (.i2l, 1) := by decide +kernel
theorem dL_sum_9 : decode cL_sum 9 = .ok (.lastore, 1) := by decide +kernel
theorem dL_sum_10 : decode cL_sum 10 = .ok (.goto 7, 3) := by decide +kernel
theorem dL_sum_13 : decode cL_sum 13 = .ok (.astore 4, 2) := by decide +kernel
theorem dL_sum_15 : decode cL_sum 15 = .ok (.iconst 1, 1) := by decide +kernel
theorem dL_sum_16 : decode cL_sum 16 = .ok (.ireturn, 1) := by decide +kernel
theorem dL_sum_17 : decode cL_sum 17 = .ok (.iconst 0, 1) := by decide +kernel
theorem dL_sum_18 : decode cL_sum 18 = .ok (.ireturn, 1) := by decide +kernel
theorem lk_RL_38 : aLkV "NoseTownLaw" 38 11 M_X11_sum ∧ aNp M_X11_sum = some 2 := ⟨⟨aU_5 144 rfl rfl, aU_5 145 rfl rfl, aU_5 146 rfl rfl, aU_1 1 rfl rfl, aU_5 147 rfl rfl, ⟨TX11, 14, rfl⟩, ⟨by decide +kernel, by decide +kernel⟩⟩, by decide +kernel⟩
def f_L_sum (v1 : Int32) (v2 : Int32) (D : aD) : Option (Int32 × aD) := aHp1 (f_X11_sum v1 v2 D) "java/util/NoSuchElementException"
set_option maxRecDepth 100000 in
theorem c_L_sum {G : aG} (hG : gOK G) (hN : va_Nc "java/lang/IllegalArgumentException" "java/util/NoSuchElementException" (gs G)) {shp : List aSh} (hS : aShp shp) {v1 : Int32} {v2 : Int32} {D : aD} {K : Int32 → aD → Prop} (h : Ok2 (f_L_sum v1 v2 D) K) : ACx G (aRm 9 2 12) M_L_sum [.ref 0, .int v1, .int v2, .ref 132] none shp D (aQi shp K) := by
  unfold f_L_sum at h
  replace h := Ok.hp1 h
  refine ACx.of (al := [some (.ref 0), some (.int v1), some (.int v2), some (.ref 132), none]) (r := 1) (by decide) (Nat.le_of_ble_eq_true rfl) rfl ?_
  refine aw_aload_n (n := 1) (i := 3) dL_sum_0 rfl rfl rfl ?_
  refine aw_iconst (n := 2) (v := 0) dL_sum_1 rfl (by decide) ?_
  refine aw_aload_n (n := 3) (i := 0) dL_sum_2 rfl rfl rfl ?_
  refine aw_iload_n (n := 4) (i := 1) dL_sum_3 rfl rfl rfl ?_
  refine aw_iload_n (n := 5) (i := 2) dL_sum_4 rfl rfl rfl ?_
  refine aw_hV (M := M_L_sum) (n := 8) (As := [.int v1, .int v2]) (rest := [.int 0, .ref 132]) hG.1 lk_RL_38 rfl rfl (sF_0 hS) (c_X11_sum hG hS (h := h)) (by decide) (by decide) rfl rfl (by decide) (by decide) dL_sum_5 rfl (fun E D h => ?_) (fun y D h => ?_)
  · obtain ⟨rfl, h⟩ := h
    refine AX.catch0 (M := M_L_sum) (a := 0) (b := 10) (hp := 13) (ct := 18) hG.2.2.2.1 rfl (by decide) (by decide) lc_18 cs_N (fun q => ?_)
    refine aw_astore (n := 15) (i := 4) (al' := [some (.ref 0), some (.int v1), some (.int v2), some (.ref 132), some (.ref (40000 + q))]) dL_sum_13 rfl rfl (by decide) rfl ?_
    refine aw_iconst (n := 16) (v := 1) dL_sum_15 rfl (by decide) ?_
    exact aw_iret rfl (by decide) (by decide) dL_sum_16 ⟨_, rfl, rfl, h⟩
  · refine aw_i2l (n := 9) dL_sum_8 rfl ?_
    refine aw_lastore (n := 10) hG.1 (sF_132 hS) (aIn_in (i := 0) (n := 1) rfl) rfl dL_sum_9 rfl ?_
    refine aw_goto (tgt := 17) dL_sum_10 (by decide) ?_
    refine aw_iconst (n := 18) (v := 0) dL_sum_17 rfl (by decide) ?_
    exact aw_iret rfl (by decide) (by decide) dL_sum_18 ⟨_, rfl, rfl, h⟩
def M_L_winner : aM := (yL_winner, cL_winner, 5, some .int,  [(0, 10, 13, 18)])
theorem dL_winner_0 : decode cL_winner 0 = .ok (.aload_n 3, 1) := by decide +kernel
theorem dL_winner_1 : decode cL_winner 1 = .ok (.iconst 0, 1) := by decide +kernel
theorem dL_winner_2 : decode cL_winner 2 = .ok (.aload_n 0, 1) := by decide +kernel
theorem dL_winner_3 : decode cL_winner 3 = .ok (.iload_n 1, 1) := by decide +kernel
theorem dL_winner_4 : decode cL_winner 4 = .ok (.iload_n 2, 1) := by decide +kernel
theorem dL_winner_5 : decode cL_winner 5 = .ok (.invokevirtual 41, 3) := by decide +kernel
theorem dL_winner_8 : decode cL_winner 8 = .ok (.i2l, 1) := by decide +kernel
theorem dL_winner_9 : decode cL_winner 9 = .ok (.lastore, 1) := by decide +kernel
theorem dL_winner_10 : decode cL_winner 10 = .ok (.goto 7, 3) := by decide +kernel
theorem dL_winner_13 : decode cL_winner 13 = .ok (.astore 4, 2) := by decide +kernel
theorem dL_winner_15 : decode cL_winner 15 = .ok (.iconst 1, 1) := by decide +kernel
theorem dL_winner_16 : decode cL_winner 16 = .ok (.ireturn, 1) := by decide +kernel
theorem dL_winner_17 : decode cL_winner 17 = .ok (.iconst 0, 1) := by decide +kernel
theorem dL_winner_18 : decode cL_winner 18 = .ok (.ireturn, 1) := by decide +kernel
theorem lk_RL_41 : aLkV "NoseTownLaw" 41 11 M_X11_winner ∧ aNp M_X11_winner = some 2 := ⟨⟨aU_5 156 rfl rfl, aU_5 157 rfl rfl, aU_5 158 rfl rfl, aU_1 1 rfl rfl, aU_5 159 rfl rfl, ⟨TX11, 14, rfl⟩, ⟨by decide +kernel, by decide +kernel⟩⟩, by decide +kernel⟩
def f_L_winner (v1 : Int32) (v2 : Int32) (D : aD) : Option (Int32 × aD) := aHp1 (f_X11_winner v1 v2 D) "java/util/NoSuchElementException"
set_option maxRecDepth 100000 in
theorem c_L_winner {G : aG} (hG : gOK G) (hN : va_Nc "java/lang/IllegalArgumentException" "java/util/NoSuchElementException" (gs G)) {shp : List aSh} (hS : aShp shp) {v1 : Int32} {v2 : Int32} {D : aD} {K : Int32 → aD → Prop} (h : Ok2 (f_L_winner v1 v2 D) K) : ACx G (aRm 9 2 12) M_L_winner [.ref 0, .int v1, .int v2, .ref 132] none shp D (aQi shp K) := by
  unfold f_L_winner at h
  replace h := Ok.hp1 h
  refine ACx.of (al := [some (.ref 0), some (.int v1), some (.int v2), some (.ref 132), none]) (r := 1) (by decide) (Nat.le_of_ble_eq_true rfl) rfl ?_
  refine aw_aload_n (n := 1) (i := 3) dL_winner_0 rfl rfl rfl ?_
  refine aw_iconst (n := 2) (v := 0) dL_winner_1 rfl (by decide) ?_
  refine aw_aload_n (n := 3) (i := 0) dL_winner_2 rfl rfl rfl ?_
  refine aw_iload_n (n := 4) (i := 1) dL_winner_3 rfl rfl rfl ?_
  refine aw_iload_n (n := 5) (i := 2) dL_winner_4 rfl rfl rfl ?_
  refine aw_hV (M := M_L_winner) (n := 8) (As := [.int v1, .int v2]) (rest := [.int 0, .ref 132]) hG.1 lk_RL_41 rfl rfl (sF_0 hS) (c_X11_winner hG hS (h := h)) (by decide) (by decide) rfl rfl (by decide) (by decide) dL_winner_5 rfl (fun E D h => ?_) (fun y D h => ?_)
  · obtain ⟨rfl, h⟩ := h
    refine AX.catch0 (M := M_L_winner) (a := 0) (b := 10) (hp := 13) (ct := 18) hG.2.2.2.1 rfl (by decide) (by decide) lc_18 cs_N (fun q => ?_)
    refine aw_astore (n := 15) (i := 4) (al' := [some (.ref 0), some (.int v1), some (.int v2), some (.ref 132), some (.ref (40000 + q))]) dL_winner_13 rfl rfl (by decide) rfl ?_
    refine aw_iconst (n := 16) (v := 1) dL_winner_15 rfl (by decide) ?_
    exact aw_iret rfl (by decide) (by decide) dL_winner_16 ⟨_, rfl, rfl, h⟩
  · refine aw_i2l (n := 9) dL_winner_8 rfl ?_
    refine aw_lastore (n := 10) hG.1 (sF_132 hS) (aIn_in (i := 0) (n := 1) rfl) rfl dL_winner_9 rfl ?_
    refine aw_goto (tgt := 17) dL_winner_10 (by decide) ?_
    refine aw_iconst (n := 18) (v := 0) dL_winner_17 rfl (by decide) ?_
    exact aw_iret rfl (by decide) (by decide) dL_winner_18 ⟨_, rfl, rfl, h⟩
def M_L_prize : aM := (yL_prize, cL_prize, 6, some .int,  [(0, 12, 15, 18), (0, 12, 19, 13)])
theorem dL_prize_0 : decode cL_prize 0 = .ok (.aload 4, 2) := by decide +kernel
theorem dL_prize_2 : decode cL_prize 2 = .ok (.iconst 0, 1) := by decide +kernel
theorem dL_prize_3 : decode cL_prize 3 = .ok (.aload_n 0, 1) := by decide +kernel
theorem dL_prize_4 : decode cL_prize 4 = .ok (.iload_n 1, 1) := by decide +kernel
theorem dL_prize_5 : decode cL_prize 5 = .ok (.iload_n 2, 1) := by decide +kernel
theorem dL_prize_6 : decode cL_prize 6 = .ok (.iload_n 3, 1) := by decide +kernel
theorem dL_prize_7 : decode cL_prize 7 = .ok (.invokevirtual 44, 3) := by decide +kernel
theorem dL_prize_10 : decode cL_prize 10 = .ok (.i2l, 1) := by decide +kernel
theorem dL_prize_11 : decode cL_prize 11 = .ok (.lastore, 1) := by decide +kernel
theorem dL_prize_12 : decode cL_prize 12 = .ok (.goto 11, 3) := by decide +kernel
theorem dL_prize_15 : decode cL_prize 15 = .ok (.astore 5, 2) := by decide +kernel
theorem dL_prize_17 : decode cL_prize 17 = .ok (.iconst 1, 1) := by decide +kernel
theorem dL_prize_18 : decode cL_prize 18 = .ok (.ireturn, 1) := by decide +kernel
theorem dL_prize_19 : decode cL_prize 19 = .ok (.astore 5, 2) := by decide +kernel
theorem dL_prize_21 : decode cL_prize 21 = .ok (.iconst 2, 1) := by decide +kernel
theorem dL_prize_22 : decode cL_prize 22 = .ok (.ireturn, 1) := by decide +kernel
theorem dL_prize_23 : decode cL_prize 23 = .ok (.iconst 0, 1) := by decide +kernel
theorem dL_prize_24 : decode cL_prize 24 = .ok (.ireturn, 1) := by decide +kernel
theorem lk_RL_44 : aLkV "NoseTownLaw" 44 11 M_X11_prize ∧ aNp M_X11_prize = some 3 := ⟨⟨aU_5 168 rfl rfl, aU_5 169 rfl rfl, aU_5 170 rfl rfl, aU_1 1 rfl rfl, aU_5 171 rfl rfl, ⟨TX11, 14, rfl⟩, ⟨by decide +kernel, by decide +kernel⟩⟩, by decide +kernel⟩
def f_L_prize (v1 : Int32) (v2 : Int32) (v3 : Int32) (D : aD) : Option (Int32 × aD) := aHp (f_X11_prize v1 v2 v3 D) "java/util/NoSuchElementException" "java/lang/IllegalArgumentException"
set_option maxRecDepth 100000 in
theorem c_L_prize {G : aG} (hG : gOK G) (hN : va_Nc "java/lang/IllegalArgumentException" "java/util/NoSuchElementException" (gs G)) {shp : List aSh} (hS : aShp shp) {v1 : Int32} {v2 : Int32} {v3 : Int32} {D : aD} {K : Int32 → aD → Prop} (h : Ok2 (f_L_prize v1 v2 v3 D) K) : ACx G (aRm 9 3 18) M_L_prize [.ref 0, .int v1, .int v2, .int v3, .ref 132] none shp D (aQi shp K) := by
  unfold f_L_prize at h
  replace h := Ok.hp h
  refine ACx.of (al := [some (.ref 0), some (.int v1), some (.int v2), some (.int v3), some (.ref 132), none]) (r := 1) (by decide) (Nat.le_of_ble_eq_true rfl) rfl ?_
  refine aw_aload (n := 2) (i := 4) dL_prize_0 rfl rfl ?_
  refine aw_iconst (n := 3) (v := 0) dL_prize_2 rfl (by decide) ?_
  refine aw_aload_n (n := 4) (i := 0) dL_prize_3 rfl rfl rfl ?_
  refine aw_iload_n (n := 5) (i := 1) dL_prize_4 rfl rfl rfl ?_
  refine aw_iload_n (n := 6) (i := 2) dL_prize_5 rfl rfl rfl ?_
  refine aw_iload_n (n := 7) (i := 3) dL_prize_6 rfl rfl rfl ?_
  refine aw_hV (M := M_L_prize) (n := 10) (As := [.int v1, .int v2, .int v3]) (rest := [.int 0, .ref 132]) hG.1 lk_RL_44 rfl rfl (sF_0 hS) (c_X11_prize hG hS (h := h)) (by decide) (by decide) rfl rfl (by decide) (by decide) dL_prize_7 rfl (fun E D h => ?_) (fun y D h => ?_)
  · rcases h with ⟨rfl, h⟩ | ⟨rfl, h⟩
    · refine AX.catch0 (M := M_L_prize) (a := 0) (b := 12) (hp := 15) (ct := 18) hG.2.2.2.1 rfl (by decide) (by decide) lc_18 cs_N (fun q => ?_)
      refine aw_astore (n := 17) (i := 5) (al' := [some (.ref 0), some (.int v1), some (.int v2), some (.int v3), some (.ref 132), some (.ref (40000 + q))]) dL_prize_15 rfl rfl (by decide) rfl ?_
      refine aw_iconst (n := 18) (v := 1) dL_prize_17 rfl (by decide) ?_
      exact aw_iret rfl (by decide) (by decide) dL_prize_18 ⟨_, rfl, rfl, h⟩
    · refine AX.catch1 (M := M_L_prize) (a := 0) (b := 12) (hp := 19) (ct := 13) hG.2.2.2.1 hN rfl (by decide) (by decide) (by decide) lc_18 lc_13 cs_I (fun q => ?_)
      refine aw_astore (n := 21) (i := 5) (al' := [some (.ref 0), some (.int v1), some (.int v2), some (.int v3), some (.ref 132), some (.ref (40000 + q))]) dL_prize_19 rfl rfl (by decide) rfl ?_
      refine aw_iconst (n := 22) (v := 2) dL_prize_21 rfl (by decide) ?_
      exact aw_iret rfl (by decide) (by decide) dL_prize_22 ⟨_, rfl, rfl, h⟩
  · refine aw_i2l (n := 11) dL_prize_10 rfl ?_
    refine aw_lastore (n := 12) hG.1 (sF_132 hS) (aIn_in (i := 0) (n := 1) rfl) rfl dL_prize_11 rfl ?_
    refine aw_goto (tgt := 23) dL_prize_12 (by decide) ?_
    refine aw_iconst (n := 24) (v := 0) dL_prize_23 rfl (by decide) ?_
    exact aw_iret rfl (by decide) (by decide) dL_prize_24 ⟨_, rfl, rfl, h⟩
def M_L_odds : aM := (yL_odds, cL_odds, 5, some .int,  [(0, 10, 13, 18)])
theorem dL_odds_0 : decode cL_odds 0 = .ok (.aload_n 3, 1) := by decide +kernel
theorem dL_odds_1 : decode cL_odds 1 = .ok (.iconst 0, 1) := by decide +kernel
theorem dL_odds_2 : decode cL_odds 2 = .ok (.aload_n 0, 1) := by decide +kernel
theorem dL_odds_3 : decode cL_odds 3 = .ok (.iload_n 1, 1) := by decide +kernel
theorem dL_odds_4 : decode cL_odds 4 = .ok (.iload_n 2, 1) := by decide +kernel
theorem dL_odds_5 : decode cL_odds 5 = .ok (.invokevirtual 48, 3) := by decide +kernel
theorem dL_odds_8 : decode cL_odds 8 = .ok (.i2l, 1) := by decide +kernel
theorem dL_odds_9 : decode cL_odds 9 = .ok (.lastore, 1) := by decide +kernel
theorem dL_odds_10 : decode cL_odds 10 = .ok (.goto 7, 3) := by decide +kernel
theorem dL_odds_13 : decode cL_odds 13 = .ok (.astore 4, 2) := by decide +kernel
theorem dL_odds_15 : decode cL_odds 15 = .ok (.iconst 1, 1) := by decide +kernel
theorem dL_odds_16 : decode cL_odds 16 = .ok (.ireturn, 1) := by decide +kernel
theorem dL_odds_17 : decode cL_odds 17 = .ok (.iconst 0, 1) := by decide +kernel
theorem dL_odds_18 : decode cL_odds 18 = .ok (.ireturn, 1) := by decide +kernel
theorem lk_RL_48 : aLkV "NoseTownLaw" 48 11 M_X11_odds ∧ aNp M_X11_odds = some 2 := ⟨⟨aU_5 181 rfl rfl, aU_5 182 rfl rfl, aU_5 183 rfl rfl, aU_1 1 rfl rfl, aU_5 184 rfl rfl, ⟨TX11, 14, rfl⟩, ⟨by decide +kernel, by decide +kernel⟩⟩, by decide +kernel⟩
def f_L_odds (v1 : Int32) (v2 : Int32) (D : aD) : Option (Int32 × aD) := aHp1 (f_X11_odds v1 v2 D) "java/util/NoSuchElementException"
set_option maxRecDepth 100000 in
theorem c_L_odds {G : aG} (hG : gOK G) (hN : va_Nc "java/lang/IllegalArgumentException" "java/util/NoSuchElementException" (gs G)) {shp : List aSh} (hS : aShp shp) {v1 : Int32} {v2 : Int32} {D : aD} {K : Int32 → aD → Prop} (h : Ok2 (f_L_odds v1 v2 D) K) : ACx G (aRm 9 2 12) M_L_odds [.ref 0, .int v1, .int v2, .ref 132] none shp D (aQi shp K) := by
  unfold f_L_odds at h
  replace h := Ok.hp1 h
  refine ACx.of (al := [some (.ref 0), some (.int v1), some (.int v2), some (.ref 132), none]) (r := 1) (by decide) (Nat.le_of_ble_eq_true rfl) rfl ?_
  refine aw_aload_n (n := 1) (i := 3) dL_odds_0 rfl rfl rfl ?_
  refine aw_iconst (n := 2) (v := 0) dL_odds_1 rfl (by decide) ?_
  refine aw_aload_n (n := 3) (i := 0) dL_odds_2 rfl rfl rfl ?_
  refine aw_iload_n (n := 4) (i := 1) dL_odds_3 rfl rfl rfl ?_
  refine aw_iload_n (n := 5) (i := 2) dL_odds_4 rfl rfl rfl ?_
  refine aw_hV (M := M_L_odds) (n := 8) (As := [.int v1, .int v2]) (rest := [.int 0, .ref 132]) hG.1 lk_RL_48 rfl rfl (sF_0 hS) (c_X11_odds hG hS (h := h)) (by decide) (by decide) rfl rfl (by decide) (by decide) dL_odds_5 rfl (fun E D h => ?_) (fun y D h => ?_)
  · obtain ⟨rfl, h⟩ := h
    refine AX.catch0 (M := M_L_odds) (a := 0) (b := 10) (hp := 13) (ct := 18) hG.2.2.2.1 rfl (by decide) (by decide) lc_18 cs_N (fun q => ?_)
    refine aw_astore (n := 15) (i := 4) (al' := [some (.ref 0), some (.int v1), some (.int v2), some (.ref 132), some (.ref (40000 + q))]) dL_odds_13 rfl rfl (by decide) rfl ?_
    refine aw_iconst (n := 16) (v := 1) dL_odds_15 rfl (by decide) ?_
    exact aw_iret rfl (by decide) (by decide) dL_odds_16 ⟨_, rfl, rfl, h⟩
  · refine aw_i2l (n := 9) dL_odds_8 rfl ?_
    refine aw_lastore (n := 10) hG.1 (sF_132 hS) (aIn_in (i := 0) (n := 1) rfl) rfl dL_odds_9 rfl ?_
    refine aw_goto (tgt := 17) dL_odds_10 (by decide) ?_
    refine aw_iconst (n := 18) (v := 0) dL_odds_17 rfl (by decide) ?_
    exact aw_iret rfl (by decide) (by decide) dL_odds_18 ⟨_, rfl, rfl, h⟩
def M_L_best : aM := (yL_best, cL_best, 5, some .int,  [(0, 10, 13, 18)])
theorem dL_best_0 : decode cL_best 0 = .ok (.aload_n 3, 1) := by decide +kernel
theorem dL_best_1 : decode cL_best 1 = .ok (.iconst 0, 1) := by decide +kernel
theorem dL_best_2 : decode cL_best 2 = .ok (.aload_n 0, 1) := by decide +kernel
theorem dL_best_3 : decode cL_best 3 = .ok (.iload_n 1, 1) := by decide +kernel
theorem dL_best_4 : decode cL_best 4 = .ok (.iload_n 2, 1) := by decide +kernel
theorem dL_best_5 : decode cL_best 5 = .ok (.invokevirtual 51, 3) := by decide +kernel
theorem dL_best_8 : decode cL_best 8 = .ok (.i2l, 1) := by decide +kernel
theorem dL_best_9 : decode cL_best 9 = .ok (.lastore, 1) := by decide +kernel
theorem dL_best_10 : decode cL_best 10 = .ok (.goto 7, 3) := by decide +kernel
theorem dL_best_13 : decode cL_best 13 = .ok (.astore 4, 2) := by decide +kernel
theorem dL_best_15 : decode cL_best 15 = .ok (.iconst 1, 1) := by decide +kernel
theorem dL_best_16 : decode cL_best 16 = .ok (.ireturn, 1) := by decide +kernel
theorem dL_best_17 : decode cL_best 17 = .ok (.iconst 0, 1) := by decide +kernel
theorem dL_best_18 : decode cL_best 18 = .ok (.ireturn, 1) := by decide +kernel
theorem lk_RL_51 : aLkV "NoseTownLaw" 51 11 M_X11_best ∧ aNp M_X11_best = some 2 := ⟨⟨aU_5 193 rfl rfl, aU_5 194 rfl rfl, aU_5 195 rfl rfl, aU_1 1 rfl rfl, aU_5 196 rfl rfl, ⟨TX11, 14, rfl⟩, ⟨by decide +kernel, by decide +kernel⟩⟩, by decide +kernel⟩
def f_L_best (v1 : Int32) (v2 : Int32) (D : aD) : Option (Int32 × aD) := aHp1 (f_X11_best v1 v2 D) "java/util/NoSuchElementException"
set_option maxRecDepth 100000 in
theorem c_L_best {G : aG} (hG : gOK G) (hN : va_Nc "java/lang/IllegalArgumentException" "java/util/NoSuchElementException" (gs G)) {shp : List aSh} (hS : aShp shp) {v1 : Int32} {v2 : Int32} {D : aD} {K : Int32 → aD → Prop} (h : Ok2 (f_L_best v1 v2 D) K) : ACx G (aRm 9 2 12) M_L_best [.ref 0, .int v1, .int v2, .ref 132] none shp D (aQi shp K) := by
  unfold f_L_best at h
  replace h := Ok.hp1 h
  refine ACx.of (al := [some (.ref 0), some (.int v1), some (.int v2), some (.ref 132), none]) (r := 1) (by decide) (Nat.le_of_ble_eq_true rfl) rfl ?_
  refine aw_aload_n (n := 1) (i := 3) dL_best_0 rfl rfl rfl ?_
  refine aw_iconst (n := 2) (v := 0) dL_best_1 rfl (by decide) ?_
  refine aw_aload_n (n := 3) (i := 0) dL_best_2 rfl rfl rfl ?_
  refine aw_iload_n (n := 4) (i := 1) dL_best_3 rfl rfl rfl ?_
  refine aw_iload_n (n := 5) (i := 2) dL_best_4 rfl rfl rfl ?_
  refine aw_hV (M := M_L_best) (n := 8) (As := [.int v1, .int v2]) (rest := [.int 0, .ref 132]) hG.1 lk_RL_51 rfl rfl (sF_0 hS) (c_X11_best hG hS (h := h)) (by decide) (by decide) rfl rfl (by decide) (by decide) dL_best_5 rfl (fun E D h => ?_) (fun y D h => ?_)
  · obtain ⟨rfl, h⟩ := h
    refine AX.catch0 (M := M_L_best) (a := 0) (b := 10) (hp := 13) (ct := 18) hG.2.2.2.1 rfl (by decide) (by decide) lc_18 cs_N (fun q => ?_)
    refine aw_astore (n := 15) (i := 4) (al' := [some (.ref 0), some (.int v1), some (.int v2), some (.ref 132), some (.ref (40000 + q))]) dL_best_13 rfl rfl (by decide) rfl ?_
    refine aw_iconst (n := 16) (v := 1) dL_best_15 rfl (by decide) ?_
    exact aw_iret rfl (by decide) (by decide) dL_best_16 ⟨_, rfl, rfl, h⟩
  · refine aw_i2l (n := 9) dL_best_8 rfl ?_
    refine aw_lastore (n := 10) hG.1 (sF_132 hS) (aIn_in (i := 0) (n := 1) rfl) rfl dL_best_9 rfl ?_
    refine aw_goto (tgt := 17) dL_best_10 (by decide) ?_
    refine aw_iconst (n := 18) (v := 0) dL_best_17 rfl (by decide) ?_
    exact aw_iret rfl (by decide) (by decide) dL_best_18 ⟨_, rfl, rfl, h⟩
def M_L_grow : aM := (yL_grow, cL_grow, 5, some .int,  [(0, 10, 13, 18)])
theorem dL_grow_0 : decode cL_grow 0 = .ok (.aload_n 3, 1) := by decide +kernel
theorem dL_grow_1 : decode cL_grow 1 = .ok (.iconst 0, 1) := by decide +kernel
theorem dL_grow_2 : decode cL_grow 2 = .ok (.aload_n 0, 1) := by decide +kernel
theorem dL_grow_3 : decode cL_grow 3 = .ok (.iload_n 1, 1) := by decide +kernel
theorem dL_grow_4 : decode cL_grow 4 = .ok (.iload_n 2, 1) := by decide +kernel
theorem dL_grow_5 : decode cL_grow 5 = .ok (.invokevirtual 54, 3) := by decide +kernel
theorem dL_grow_8 : decode cL_grow 8 = .ok (.i2l, 1) := by decide +kernel
theorem dL_grow_9 : decode cL_grow 9 = .ok (.lastore, 1) := by decide +kernel
theorem dL_grow_10 : decode cL_grow 10 = .ok (.goto 7, 3) := by decide +kernel
theorem dL_grow_13 : decode cL_grow 13 = .ok (.astore 4, 2) := by decide +kernel
theorem dL_grow_15 : decode cL_grow 15 = .ok (.iconst 1, 1) := by decide +kernel
theorem dL_grow_16 : decode cL_grow 16 = .ok (.ireturn, 1) := by decide +kernel
theorem dL_grow_17 : decode cL_grow 17 = .ok (.iconst 0, 1) := by decide +kernel
theorem dL_grow_18 : decode cL_grow 18 = .ok (.ireturn, 1) := by decide +kernel
theorem lk_RL_54 : aLkV "NoseTownLaw" 54 11 M_X11_grow ∧ aNp M_X11_grow = some 2 := ⟨⟨aU_5 205 rfl rfl, aU_5 206 rfl rfl, aU_5 207 rfl rfl, aU_1 1 rfl rfl, aU_5 208 rfl rfl, ⟨TX11, 14, rfl⟩, ⟨by decide +kernel, by decide +kernel⟩⟩, by decide +kernel⟩
def f_L_grow (v1 : Int32) (v2 : Int32) (D : aD) : Option (Int32 × aD) := aHp1 (f_X11_grow v1 v2 D) "java/util/NoSuchElementException"
set_option maxRecDepth 100000 in
theorem c_L_grow {G : aG} (hG : gOK G) (hN : va_Nc "java/lang/IllegalArgumentException" "java/util/NoSuchElementException" (gs G)) {shp : List aSh} (hS : aShp shp) {v1 : Int32} {v2 : Int32} {D : aD} {K : Int32 → aD → Prop} (h : Ok2 (f_L_grow v1 v2 D) K) : ACx G (aRm 9 2 12) M_L_grow [.ref 0, .int v1, .int v2, .ref 132] none shp D (aQi shp K) := by
  unfold f_L_grow at h
  replace h := Ok.hp1 h
  refine ACx.of (al := [some (.ref 0), some (.int v1), some (.int v2), some (.ref 132), none]) (r := 1) (by decide) (Nat.le_of_ble_eq_true rfl) rfl ?_
  refine aw_aload_n (n := 1) (i := 3) dL_grow_0 rfl rfl rfl ?_
  refine aw_iconst (n := 2) (v := 0) dL_grow_1 rfl (by decide) ?_
  refine aw_aload_n (n := 3) (i := 0) dL_grow_2 rfl rfl rfl ?_
  refine aw_iload_n (n := 4) (i := 1) dL_grow_3 rfl rfl rfl ?_
  refine aw_iload_n (n := 5) (i := 2) dL_grow_4 rfl rfl rfl ?_
  refine aw_hV (M := M_L_grow) (n := 8) (As := [.int v1, .int v2]) (rest := [.int 0, .ref 132]) hG.1 lk_RL_54 rfl rfl (sF_0 hS) (c_X11_grow hG hS (h := h)) (by decide) (by decide) rfl rfl (by decide) (by decide) dL_grow_5 rfl (fun E D h => ?_) (fun y D h => ?_)
  · obtain ⟨rfl, h⟩ := h
    refine AX.catch0 (M := M_L_grow) (a := 0) (b := 10) (hp := 13) (ct := 18) hG.2.2.2.1 rfl (by decide) (by decide) lc_18 cs_N (fun q => ?_)
    refine aw_astore (n := 15) (i := 4) (al' := [some (.ref 0), some (.int v1), some (.int v2), some (.ref 132), some (.ref (40000 + q))]) dL_grow_13 rfl rfl (by decide) rfl ?_
    refine aw_iconst (n := 16) (v := 1) dL_grow_15 rfl (by decide) ?_
    exact aw_iret rfl (by decide) (by decide) dL_grow_16 ⟨_, rfl, rfl, h⟩
  · refine aw_i2l (n := 9) dL_grow_8 rfl ?_
    refine aw_lastore (n := 10) hG.1 (sF_132 hS) (aIn_in (i := 0) (n := 1) rfl) rfl dL_grow_9 rfl ?_
    refine aw_goto (tgt := 17) dL_grow_10 (by decide) ?_
    refine aw_iconst (n := 18) (v := 0) dL_grow_17 rfl (by decide) ?_
    exact aw_iret rfl (by decide) (by decide) dL_grow_18 ⟨_, rfl, rfl, h⟩
def M_L_fair : aM := (yL_fair, cL_fair, 4, some .int,  [(0, 9, 12, 18)])
theorem dL_fair_0 : decode cL_fair 0 = .ok (.aload_n 2, 1) := by decide +kernel
theorem dL_fair_1 : decode cL_fair 1 = .ok (.iconst 0, 1) := by decide +kernel
theorem dL_fair_2 : decode cL_fair 2 = .ok (.aload_n 0, 1) := by decide +kernel
theorem dL_fair_3 : decode cL_fair 3 = .ok (.iload_n 1, 1) := by decide +kernel
theorem dL_fair_4 : decode cL_fair 4 = .ok (.invokevirtual 57, 3) := by decide +kernel
theorem dL_fair_7 : decode cL_fair 7 = .ok (.i2l, 1) := by decide +kernel
theorem dL_fair_8 : decode cL_fair 8 = .ok (.lastore, 1) := by decide +kernel
theorem dL_fair_9 : decode cL_fair 9 = .ok (.goto 6, 3) := by decide +kernel
theorem dL_fair_12 : decode cL_fair 12 = .ok (.astore_n 3, 1) := by decide +kernel
theorem dL_fair_13 : decode cL_fair 13 = .ok (.iconst 1, 1) := by decide +kernel
theorem dL_fair_14 : decode cL_fair 14 = .ok (.ireturn, 1) := by decide +kernel
theorem dL_fair_15 : decode cL_fair 15 = .ok (.iconst 0, 1) := by decide +kernel
theorem dL_fair_16 : decode cL_fair 16 = .ok (.ireturn, 1) := by decide +kernel
theorem lk_RL_57 : aLkV "NoseTownLaw" 57 11 M_X11_fair ∧ aNp M_X11_fair = some 1 := ⟨⟨aU_5 221 rfl rfl, aU_5 222 rfl rfl, aU_5 223 rfl rfl, aU_1 1 rfl rfl, aU_5 224 rfl rfl, ⟨TX11, 14, rfl⟩, ⟨by decide +kernel, by decide +kernel⟩⟩, by decide +kernel⟩
def f_L_fair (v1 : Int32) (D : aD) : Option (Int32 × aD) := aHp1 (f_X11_fair v1 D) "java/util/NoSuchElementException"
set_option maxRecDepth 100000 in
theorem c_L_fair {G : aG} (hG : gOK G) (hN : va_Nc "java/lang/IllegalArgumentException" "java/util/NoSuchElementException" (gs G)) {shp : List aSh} (hS : aShp shp) {v1 : Int32} {D : aD} {K : Int32 → aD → Prop} (h : Ok2 (f_L_fair v1 D) K) : ACx G (aRm 8 1 6) M_L_fair [.ref 0, .int v1, .ref 132] none shp D (aQi shp K) := by
  unfold f_L_fair at h
  replace h := Ok.hp1 h
  refine ACx.of (al := [some (.ref 0), some (.int v1), some (.ref 132), none]) (r := 1) (by decide) (Nat.le_of_ble_eq_true rfl) rfl ?_
  refine aw_aload_n (n := 1) (i := 2) dL_fair_0 rfl rfl rfl ?_
  refine aw_iconst (n := 2) (v := 0) dL_fair_1 rfl (by decide) ?_
  refine aw_aload_n (n := 3) (i := 0) dL_fair_2 rfl rfl rfl ?_
  refine aw_iload_n (n := 4) (i := 1) dL_fair_3 rfl rfl rfl ?_
  refine aw_hV (M := M_L_fair) (n := 7) (As := [.int v1]) (rest := [.int 0, .ref 132]) hG.1 lk_RL_57 rfl rfl (sF_0 hS) (c_X11_fair hG hS (h := h)) (by decide) (by decide) rfl rfl (by decide) (by decide) dL_fair_4 rfl (fun E D h => ?_) (fun y D h => ?_)
  · obtain ⟨rfl, h⟩ := h
    refine AX.catch0 (M := M_L_fair) (a := 0) (b := 9) (hp := 12) (ct := 18) hG.2.2.2.1 rfl (by decide) (by decide) lc_18 cs_N (fun q => ?_)
    refine aw_astore_n (n := 13) (i := 3) (al' := [some (.ref 0), some (.int v1), some (.ref 132), some (.ref (40000 + q))]) dL_fair_12 rfl rfl rfl (by decide) rfl ?_
    refine aw_iconst (n := 14) (v := 1) dL_fair_13 rfl (by decide) ?_
    exact aw_iret rfl (by decide) (by decide) dL_fair_14 ⟨_, rfl, rfl, h⟩
  · refine aw_i2l (n := 8) dL_fair_7 rfl ?_
    refine aw_lastore (n := 9) hG.1 (sF_132 hS) (aIn_in (i := 0) (n := 1) rfl) rfl dL_fair_8 rfl ?_
    refine aw_goto (tgt := 15) dL_fair_9 (by decide) ?_
    refine aw_iconst (n := 16) (v := 0) dL_fair_15 rfl (by decide) ?_
    exact aw_iret rfl (by decide) (by decide) dL_fair_16 ⟨_, rfl, rfl, h⟩
def M_L_nose : aM := (yL_nose, cL_nose, 7, some .int,  [(0, 14, 17, 18)])
theorem dL_nose_0 : decode cL_nose 0 = .ok (.aload 5, 2) := by decide +kernel
theorem dL_nose_2 : decode cL_nose 2 = .ok (.iconst 0, 1) := by decide +kernel
theorem dL_nose_3 : decode cL_nose 3 = .ok (.aload_n 0, 1) := by decide +kernel
theorem dL_nose_4 : decode cL_nose 4 = .ok (.iload_n 1, 1) := by decide +kernel
theorem dL_nose_5 : decode cL_nose 5 = .ok (.iload_n 2, 1) := by decide +kernel
theorem dL_nose_6 : decode cL_nose 6 = .ok (.iload_n 3, 1) := by decide +kernel
theorem dL_nose_7 : decode cL_nose 7 = .ok (.iload 4, 2) := by decide +kernel
theorem dL_nose_9 : decode cL_nose 9 = .ok (.invokevirtual 60, 3) := by decide +kernel
theorem dL_nose_12 : decode cL_nose 12 = .ok (.i2l, 1) := by decide +kernel
theorem dL_nose_13 : decode cL_nose 13 = .ok (.lastore, 1) := by decide +kernel
theorem dL_nose_14 : decode cL_nose 14 = .ok (.goto 7, 3) := by decide +kernel
theorem dL_nose_17 : decode cL_nose 17 = .ok (.astore 6, 2) := by decide +kernel
theorem dL_nose_19 : decode cL_nose 19 = .ok (.iconst 1, 1) := by decide +kernel
theorem dL_nose_20 : decode cL_nose 20 = .ok (.ireturn, 1) := by decide +kernel
theorem dL_nose_21 : decode cL_nose 21 = .ok (.iconst 0, 1) := by decide +kernel
theorem dL_nose_22 : decode cL_nose 22 = .ok (.ireturn, 1) := by decide +kernel
theorem lk_RL_60 : aLkV "NoseTownLaw" 60 11 M_X11_nose ∧ aNp M_X11_nose = some 4 := ⟨⟨aU_6 25 rfl rfl, aU_6 26 rfl rfl, aU_6 27 rfl rfl, aU_1 1 rfl rfl, aU_6 28 rfl rfl, ⟨TX11, 14, rfl⟩, ⟨by decide +kernel, by decide +kernel⟩⟩, by decide +kernel⟩
def f_L_nose (v1 : Int32) (v2 : Int32) (v3 : Int32) (v4 : Int32) (D : aD) : Option (Int32 × aD) := aHp1 (f_X11_nose v1 v2 v3 v4 D) "java/util/NoSuchElementException"
set_option maxRecDepth 100000 in
theorem c_L_nose {G : aG} (hG : gOK G) (hN : va_Nc "java/lang/IllegalArgumentException" "java/util/NoSuchElementException" (gs G)) {shp : List aSh} (hS : aShp shp) {v1 : Int32} {v2 : Int32} {v3 : Int32} {v4 : Int32} {D : aD} {K : Int32 → aD → Prop} (h : Ok2 (f_L_nose v1 v2 v3 v4 D) K) : ACx G (aRm 8 1 6) M_L_nose [.ref 0, .int v1, .int v2, .int v3, .int v4, .ref 132] none shp D (aQi shp K) := by
  unfold f_L_nose at h
  replace h := Ok.hp1 h
  refine ACx.of (al := [some (.ref 0), some (.int v1), some (.int v2), some (.int v3), some (.int v4), some (.ref 132), none]) (r := 1) (by decide) (Nat.le_of_ble_eq_true rfl) rfl ?_
  refine aw_aload (n := 2) (i := 5) dL_nose_0 rfl rfl ?_
  refine aw_iconst (n := 3) (v := 0) dL_nose_2 rfl (by decide) ?_
  refine aw_aload_n (n := 4) (i := 0) dL_nose_3 rfl rfl rfl ?_
  refine aw_iload_n (n := 5) (i := 1) dL_nose_4 rfl rfl rfl ?_
  refine aw_iload_n (n := 6) (i := 2) dL_nose_5 rfl rfl rfl ?_
  refine aw_iload_n (n := 7) (i := 3) dL_nose_6 rfl rfl rfl ?_
  refine aw_iload (n := 9) (i := 4) dL_nose_7 rfl rfl ?_
  refine aw_hV (M := M_L_nose) (n := 12) (As := [.int v1, .int v2, .int v3, .int v4]) (rest := [.int 0, .ref 132]) hG.1 lk_RL_60 rfl rfl (sF_0 hS) (c_X11_nose hG hS (h := h)) (by decide) (by decide) rfl rfl (by decide) (by decide) dL_nose_9 rfl (fun E D h => ?_) (fun y D h => ?_)
  · obtain ⟨rfl, h⟩ := h
    refine AX.catch0 (M := M_L_nose) (a := 0) (b := 14) (hp := 17) (ct := 18) hG.2.2.2.1 rfl (by decide) (by decide) lc_18 cs_N (fun q => ?_)
    refine aw_astore (n := 19) (i := 6) (al' := [some (.ref 0), some (.int v1), some (.int v2), some (.int v3), some (.int v4), some (.ref 132), some (.ref (40000 + q))]) dL_nose_17 rfl rfl (by decide) rfl ?_
    refine aw_iconst (n := 20) (v := 1) dL_nose_19 rfl (by decide) ?_
    exact aw_iret rfl (by decide) (by decide) dL_nose_20 ⟨_, rfl, rfl, h⟩
  · refine aw_i2l (n := 13) dL_nose_12 rfl ?_
    refine aw_lastore (n := 14) hG.1 (sF_132 hS) (aIn_in (i := 0) (n := 1) rfl) rfl dL_nose_13 rfl ?_
    refine aw_goto (tgt := 21) dL_nose_14 (by decide) ?_
    refine aw_iconst (n := 22) (v := 0) dL_nose_21 rfl (by decide) ?_
    exact aw_iret rfl (by decide) (by decide) dL_nose_22 ⟨_, rfl, rfl, h⟩
def M_L_cases : aM := (yL_cases, cL_cases, 4, some .int,  [(0, 9, 12, 18)])
theorem dL_cases_0 : decode cL_cases 0 = .ok (.aload_n 2, 1) := by decide +kernel
theorem dL_cases_1 : decode cL_cases 1 = .ok (.iconst 0, 1) := by decide +kernel
theorem dL_cases_2 : decode cL_cases 2 = .ok (.aload_n 0, 1) := by decide +kernel
theorem dL_cases_3 : decode cL_cases 3 = .ok (.iload_n 1, 1) := by decide +kernel
theorem dL_cases_4 : decode cL_cases 4 = .ok (.invokevirtual 63, 3) := by decide +kernel
theorem dL_cases_7 : decode cL_cases 7 = .ok (.i2l, 1) := by decide +kernel
theorem dL_cases_8 : decode cL_cases 8 = .ok (.lastore, 1) := by decide +kernel
theorem dL_cases_9 : decode cL_cases 9 = .ok (.goto 6, 3) := by decide +kernel
theorem dL_cases_12 : decode cL_cases 12 = .ok (.astore_n 3, 1) := by decide +kernel
theorem dL_cases_13 : decode cL_cases 13 = .ok (.iconst 1, 1) := by decide +kernel
theorem dL_cases_14 : decode cL_cases 14 = .ok (.ireturn, 1) := by decide +kernel
theorem dL_cases_15 : decode cL_cases 15 = .ok (.iconst 0, 1) := by decide +kernel
theorem dL_cases_16 : decode cL_cases 16 = .ok (.ireturn, 1) := by decide +kernel
theorem lk_RL_63 : aLkV "NoseTownLaw" 63 11 M_X11_cases ∧ aNp M_X11_cases = some 1 := ⟨⟨aU_6 36 rfl rfl, aU_6 37 rfl rfl, aU_6 38 rfl rfl, aU_1 1 rfl rfl, aU_6 39 rfl rfl, ⟨TX11, 14, rfl⟩, ⟨by decide +kernel, by decide +kernel⟩⟩, by decide +kernel⟩
def f_L_cases (v1 : Int32) (D : aD) : Option (Int32 × aD) := aHp1 (f_X11_cases v1 D) "java/util/NoSuchElementException"
set_option maxRecDepth 100000 in
theorem c_L_cases {G : aG} (hG : gOK G) (hN : va_Nc "java/lang/IllegalArgumentException" "java/util/NoSuchElementException" (gs G)) {shp : List aSh} (hS : aShp shp) {v1 : Int32} {D : aD} {K : Int32 → aD → Prop} (h : Ok2 (f_L_cases v1 D) K) : ACx G (aRm 8 2 12) M_L_cases [.ref 0, .int v1, .ref 132] none shp D (aQi shp K) := by
  unfold f_L_cases at h
  replace h := Ok.hp1 h
  refine ACx.of (al := [some (.ref 0), some (.int v1), some (.ref 132), none]) (r := 1) (by decide) (Nat.le_of_ble_eq_true rfl) rfl ?_
  refine aw_aload_n (n := 1) (i := 2) dL_cases_0 rfl rfl rfl ?_
  refine aw_iconst (n := 2) (v := 0) dL_cases_1 rfl (by decide) ?_
  refine aw_aload_n (n := 3) (i := 0) dL_cases_2 rfl rfl rfl ?_
  refine aw_iload_n (n := 4) (i := 1) dL_cases_3 rfl rfl rfl ?_
  refine aw_hV (M := M_L_cases) (n := 7) (As := [.int v1]) (rest := [.int 0, .ref 132]) hG.1 lk_RL_63 rfl rfl (sF_0 hS) (c_X11_cases hG hS (h := h)) (by decide) (by decide) rfl rfl (by decide) (by decide) dL_cases_4 rfl (fun E D h => ?_) (fun y D h => ?_)
  · obtain ⟨rfl, h⟩ := h
    refine AX.catch0 (M := M_L_cases) (a := 0) (b := 9) (hp := 12) (ct := 18) hG.2.2.2.1 rfl (by decide) (by decide) lc_18 cs_N (fun q => ?_)
    refine aw_astore_n (n := 13) (i := 3) (al' := [some (.ref 0), some (.int v1), some (.ref 132), some (.ref (40000 + q))]) dL_cases_12 rfl rfl rfl (by decide) rfl ?_
    refine aw_iconst (n := 14) (v := 1) dL_cases_13 rfl (by decide) ?_
    exact aw_iret rfl (by decide) (by decide) dL_cases_14 ⟨_, rfl, rfl, h⟩
  · refine aw_i2l (n := 8) dL_cases_7 rfl ?_
    refine aw_lastore (n := 9) hG.1 (sF_132 hS) (aIn_in (i := 0) (n := 1) rfl) rfl dL_cases_8 rfl ?_
    refine aw_goto (tgt := 15) dL_cases_9 (by decide) ?_
    refine aw_iconst (n := 16) (v := 0) dL_cases_15 rfl (by decide) ?_
    exact aw_iret rfl (by decide) (by decide) dL_cases_16 ⟨_, rfl, rfl, h⟩
def M_L_next : aM := (yL_next, cL_next, 5, some .int,  [(0, 10, 13, 18)])
theorem dL_next_0 : decode cL_next 0 = .ok (.aload_n 3, 1) := by decide +kernel
theorem dL_next_1 : decode cL_next 1 = .ok (.iconst 0, 1) := by decide +kernel
theorem dL_next_2 : decode cL_next 2 = .ok (.aload_n 0, 1) := by decide +kernel
theorem dL_next_3 : decode cL_next 3 = .ok (.iload_n 1, 1) := by decide +kernel
theorem dL_next_4 : decode cL_next 4 = .ok (.iload_n 2, 1) := by decide +kernel
theorem dL_next_5 : decode cL_next 5 = .ok (.invokevirtual 66, 3) := by decide +kernel
theorem dL_next_8 : decode cL_next 8 = .ok (.i2l, 1) := by decide +kernel
theorem dL_next_9 : decode cL_next 9 = .ok (.lastore, 1) := by decide +kernel
theorem dL_next_10 : decode cL_next 10 = .ok (.goto 7, 3) := by decide +kernel
theorem dL_next_13 : decode cL_next 13 = .ok (.astore 4, 2) := by decide +kernel
theorem dL_next_15 : decode cL_next 15 = .ok (.iconst 1, 1) := by decide +kernel
theorem dL_next_16 : decode cL_next 16 = .ok (.ireturn, 1) := by decide +kernel
theorem dL_next_17 : decode cL_next 17 = .ok (.iconst 0, 1) := by decide +kernel
theorem dL_next_18 : decode cL_next 18 = .ok (.ireturn, 1) := by decide +kernel
theorem lk_RL_66 : aLkV "NoseTownLaw" 66 11 M_X11_next ∧ aNp M_X11_next = some 2 := ⟨⟨aU_6 73 rfl rfl, aU_6 74 rfl rfl, aU_6 75 rfl rfl, aU_1 1 rfl rfl, aU_6 76 rfl rfl, ⟨TX11, 14, rfl⟩, ⟨by decide +kernel, by decide +kernel⟩⟩, by decide +kernel⟩
def f_L_next (v1 : Int32) (v2 : Int32) (D : aD) : Option (Int32 × aD) := aHp1 (f_X11_next v1 v2 D) "java/util/NoSuchElementException"
set_option maxRecDepth 100000 in
theorem c_L_next {G : aG} (hG : gOK G) (hN : va_Nc "java/lang/IllegalArgumentException" "java/util/NoSuchElementException" (gs G)) {shp : List aSh} (hS : aShp shp) {v1 : Int32} {v2 : Int32} {D : aD} {K : Int32 → aD → Prop} (h : Ok2 (f_L_next v1 v2 D) K) : ACx G (aRm 8 1 6) M_L_next [.ref 0, .int v1, .int v2, .ref 132] none shp D (aQi shp K) := by
  unfold f_L_next at h
  replace h := Ok.hp1 h
  refine ACx.of (al := [some (.ref 0), some (.int v1), some (.int v2), some (.ref 132), none]) (r := 1) (by decide) (Nat.le_of_ble_eq_true rfl) rfl ?_
  refine aw_aload_n (n := 1) (i := 3) dL_next_0 rfl rfl rfl ?_
  refine aw_iconst (n := 2) (v := 0) dL_next_1 rfl (by decide) ?_
  refine aw_aload_n (n := 3) (i := 0) dL_next_2 rfl rfl rfl ?_
  refine aw_iload_n (n := 4) (i := 1) dL_next_3 rfl rfl rfl ?_
  refine aw_iload_n (n := 5) (i := 2) dL_next_4 rfl rfl rfl ?_
  refine aw_hV (M := M_L_next) (n := 8) (As := [.int v1, .int v2]) (rest := [.int 0, .ref 132]) hG.1 lk_RL_66 rfl rfl (sF_0 hS) (c_X11_next hG hS (h := h)) (by decide) (by decide) rfl rfl (by decide) (by decide) dL_next_5 rfl (fun E D h => ?_) (fun y D h => ?_)
  · obtain ⟨rfl, h⟩ := h
    refine AX.catch0 (M := M_L_next) (a := 0) (b := 10) (hp := 13) (ct := 18) hG.2.2.2.1 rfl (by decide) (by decide) lc_18 cs_N (fun q => ?_)
    refine aw_astore (n := 15) (i := 4) (al' := [some (.ref 0), some (.int v1), some (.int v2), some (.ref 132), some (.ref (40000 + q))]) dL_next_13 rfl rfl (by decide) rfl ?_
    refine aw_iconst (n := 16) (v := 1) dL_next_15 rfl (by decide) ?_
    exact aw_iret rfl (by decide) (by decide) dL_next_16 ⟨_, rfl, rfl, h⟩
  · refine aw_i2l (n := 9) dL_next_8 rfl ?_
    refine aw_lastore (n := 10) hG.1 (sF_132 hS) (aIn_in (i := 0) (n := 1) rfl) rfl dL_next_9 rfl ?_
    refine aw_goto (tgt := 17) dL_next_10 (by decide) ?_
    refine aw_iconst (n := 18) (v := 0) dL_next_17 rfl (by decide) ?_
    exact aw_iret rfl (by decide) (by decide) dL_next_18 ⟨_, rfl, rfl, h⟩
def M_L_days : aM := (yL_days, cL_days, 6, some .int,  [(0, 12, 15, 18), (0, 12, 19, 13)])
theorem dL_days_0 : decode cL_days 0 = .ok (.aload 4, 2) := by decide +kernel
theorem dL_days_2 : decode cL_days 2 = .ok (.iconst 0, 1) := by decide +kernel
theorem dL_days_3 : decode cL_days 3 = .ok (.aload_n 0, 1) := by decide +kernel
theorem dL_days_4 : decode cL_days 4 = .ok (.iload_n 1, 1) := by decide +kernel
theorem dL_days_5 : decode cL_days 5 = .ok (.iload_n 2, 1) := by decide +kernel
theorem dL_days_6 : decode cL_days 6 = .ok (.iload_n 3, 1) := by decide +kernel
theorem dL_days_7 : decode cL_days 7 = .ok (.invokevirtual 69, 3) := by decide +kernel
theorem dL_days_10 : decode cL_days 10 = .ok (.i2l, 1) := by decide +kernel
theorem dL_days_11 : decode cL_days 11 = .ok (.lastore, 1) := by decide +kernel
theorem dL_days_12 : decode cL_days 12 = .ok (.goto 11, 3) := by decide +kernel
theorem dL_days_15 : decode cL_days 15 = .ok (.astore 5, 2) := by decide +kernel
theorem dL_days_17 : decode cL_days 17 = .ok (.iconst 1, 1) := by decide +kernel
theorem dL_days_18 : decode cL_days 18 = .ok (.ireturn, 1) := by decide +kernel
theorem dL_days_19 : decode cL_days 19 = .ok (.astore 5, 2) := by decide +kernel
theorem dL_days_21 : decode cL_days 21 = .ok (.iconst 2, 1) := by decide +kernel
theorem dL_days_22 : decode cL_days 22 = .ok (.ireturn, 1) := by decide +kernel
theorem dL_days_23 : decode cL_days 23 = .ok (.iconst 0, 1) := by decide +kernel
theorem dL_days_24 : decode cL_days 24 = .ok (.ireturn, 1) := by decide +kernel
theorem lk_RL_69 : aLkV "NoseTownLaw" 69 11 M_X11_days ∧ aNp M_X11_days = some 3 := ⟨⟨aU_6 111 rfl rfl, aU_6 112 rfl rfl, aU_6 113 rfl rfl, aU_1 1 rfl rfl, aU_6 114 rfl rfl, ⟨TX11, 14, rfl⟩, ⟨by decide +kernel, by decide +kernel⟩⟩, by decide +kernel⟩
def f_L_days (v1 : Int32) (v2 : Int32) (v3 : Int32) (D : aD) : Option (Int32 × aD) := aHp (f_X11_days v1 v2 v3 D) "java/util/NoSuchElementException" "java/lang/IllegalArgumentException"
set_option maxRecDepth 100000 in
theorem c_L_days {G : aG} (hG : gOK G) (hN : va_Nc "java/lang/IllegalArgumentException" "java/util/NoSuchElementException" (gs G)) {shp : List aSh} (hS : aShp shp) {v1 : Int32} {v2 : Int32} {v3 : Int32} {D : aD} {K : Int32 → aD → Prop} (h : Ok2 (f_L_days v1 v2 v3 D) K) : ACx G (aRm 9 2 12) M_L_days [.ref 0, .int v1, .int v2, .int v3, .ref 132] none shp D (aQi shp K) := by
  unfold f_L_days at h
  replace h := Ok.hp h
  refine ACx.of (al := [some (.ref 0), some (.int v1), some (.int v2), some (.int v3), some (.ref 132), none]) (r := 1) (by decide) (Nat.le_of_ble_eq_true rfl) rfl ?_
  refine aw_aload (n := 2) (i := 4) dL_days_0 rfl rfl ?_
  refine aw_iconst (n := 3) (v := 0) dL_days_2 rfl (by decide) ?_
  refine aw_aload_n (n := 4) (i := 0) dL_days_3 rfl rfl rfl ?_
  refine aw_iload_n (n := 5) (i := 1) dL_days_4 rfl rfl rfl ?_
  refine aw_iload_n (n := 6) (i := 2) dL_days_5 rfl rfl rfl ?_
  refine aw_iload_n (n := 7) (i := 3) dL_days_6 rfl rfl rfl ?_
  refine aw_hV (M := M_L_days) (n := 10) (As := [.int v1, .int v2, .int v3]) (rest := [.int 0, .ref 132]) hG.1 lk_RL_69 rfl rfl (sF_0 hS) (c_X11_days hG hS (h := h)) (by decide) (by decide) rfl rfl (by decide) (by decide) dL_days_7 rfl (fun E D h => ?_) (fun y D h => ?_)
  · rcases h with ⟨rfl, h⟩ | ⟨rfl, h⟩
    · refine AX.catch0 (M := M_L_days) (a := 0) (b := 12) (hp := 15) (ct := 18) hG.2.2.2.1 rfl (by decide) (by decide) lc_18 cs_N (fun q => ?_)
      refine aw_astore (n := 17) (i := 5) (al' := [some (.ref 0), some (.int v1), some (.int v2), some (.int v3), some (.ref 132), some (.ref (40000 + q))]) dL_days_15 rfl rfl (by decide) rfl ?_
      refine aw_iconst (n := 18) (v := 1) dL_days_17 rfl (by decide) ?_
      exact aw_iret rfl (by decide) (by decide) dL_days_18 ⟨_, rfl, rfl, h⟩
    · refine AX.catch1 (M := M_L_days) (a := 0) (b := 12) (hp := 19) (ct := 13) hG.2.2.2.1 hN rfl (by decide) (by decide) (by decide) lc_18 lc_13 cs_I (fun q => ?_)
      refine aw_astore (n := 21) (i := 5) (al' := [some (.ref 0), some (.int v1), some (.int v2), some (.int v3), some (.ref 132), some (.ref (40000 + q))]) dL_days_19 rfl rfl (by decide) rfl ?_
      refine aw_iconst (n := 22) (v := 2) dL_days_21 rfl (by decide) ?_
      exact aw_iret rfl (by decide) (by decide) dL_days_22 ⟨_, rfl, rfl, h⟩
  · refine aw_i2l (n := 11) dL_days_10 rfl ?_
    refine aw_lastore (n := 12) hG.1 (sF_132 hS) (aIn_in (i := 0) (n := 1) rfl) rfl dL_days_11 rfl ?_
    refine aw_goto (tgt := 23) dL_days_12 (by decide) ?_
    refine aw_iconst (n := 24) (v := 0) dL_days_23 rfl (by decide) ?_
    exact aw_iret rfl (by decide) (by decide) dL_days_24 ⟨_, rfl, rfl, h⟩
