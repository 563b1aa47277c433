section STR
variable {G : aG} {M : aM} {fr : Option Nat} {R : Room} {kc ks pc n : Nat} {al : List (Option Value)} {st : List Value} {shp : List aSh} {D : aD} {Q : aQ} {w : Nat}
theorem gAd_K (h : w < 10000) : gAd G (10000 + w) = gK G w := by
  rw [gAd, if_neg (by omega), if_pos (by omega), Nat.add_sub_cancel_left]
theorem gAd_V (h : w < 10000) : gAd G (20000 + w) = gV G w := by
  rw [gAd, if_neg (by omega), if_neg (by omega), if_pos (by omega), Nat.add_sub_cancel_left]
theorem gAd_X : gAd G (40000 + w) = w := by
  rw [gAd, if_neg (by omega), if_neg (by omega), if_neg (by omega), if_neg (by omega), Nat.add_sub_cancel_left]
theorem aw_scoder {idx : Nat} (hG : gOK G) (hw : w < 13) (hL : Cond.fieldLink (aMo M) idx "java/lang/String" "coder" "B" ∈ aU) (hd : decode (aMb M) pc = .ok (.getfield idx, 3)) (hn : pc + 3 = n) (K : AW G R M fr kc ks n al (.int 0 :: st) shp D Q) : AW G R M fr kc ks pc al (.ref (10000 + w) :: st) shp D Q := by
  subst hn
  intro p e s m args below meth c H locs ls F hH hS hl
  have hq : ((Value.ref (10000 + w) :: st).map (av G)) = .ref (gK G w) :: st.map (av G) := by
    simp only [List.map_cons, av, gAd_K (Nat.lt_trans hw (by decide : 13 < 10000))]
  rw [hq]
  have h2 := va_OF.moved F.2.2.2.2.2.2.2.1.alike ((hG.2.2.2.2.2.1 w hw).2.1.kept (fun a h1 _ => F.2.2.2.2.2.2.2.2.2.1 a h1))
  exact vk_getf F.1 F.2.1 h2 hS F.2.2.2.1 (F.2.2.2.2.1 _ hL) (fun _ h => h) hd (K p e s m args below meth c H locs ls F hH hS hl)
theorem aw_svalue {idx : Nat} (hG : gOK G) (hw : w < 13) (hL : Cond.fieldLink (aMo M) idx "java/lang/String" "value" "[B" ∈ aU) (hd : decode (aMb M) pc = .ok (.getfield idx, 3)) (hn : pc + 3 = n) (K : AW G R M fr kc ks n al (.ref (20000 + w) :: st) shp D Q) : AW G R M fr kc ks pc al (.ref (10000 + w) :: st) shp D Q := by
  subst hn
  intro p e s m args below meth c H locs ls F hH hS hl
  have hq : ((Value.ref (10000 + w) :: st).map (av G)) = .ref (gK G w) :: st.map (av G) := by
    simp only [List.map_cons, av, gAd_K (Nat.lt_trans hw (by decide : 13 < 10000))]
  rw [hq]
  have h2 := va_OF.moved F.2.2.2.2.2.2.2.1.alike ((hG.2.2.2.2.2.1 w hw).2.2.1.kept (fun a h1 _ => F.2.2.2.2.2.2.2.2.2.1 a h1))
  have h9 := K p e s m args below meth c H locs ls F hH hS hl
  have hq2 : ((Value.ref (20000 + w) :: st).map (av G)) = .ref (gV G w) :: st.map (av G) := by
    simp only [List.map_cons, av, gAd_V (Nat.lt_trans hw (by decide : 13 < 10000))]
  rw [hq2] at h9
  exact vk_getf F.1 F.2.1 h2 hS F.2.2.2.1 (F.2.2.2.2.1 _ hL) (fun _ h => h) hd h9
theorem aw_sblen (hG : gOK G) (hw : w < 13) (hd : decode (aMb M) pc = .ok (.arraylength, 1)) (hn : pc + 1 = n) (K : AW G R M fr kc ks n al (.int (sLen w) :: st) shp D Q) : AW G R M fr kc ks pc al (.ref (20000 + w) :: st) shp D Q := by
  subst hn
  intro p e s m args below meth c H locs ls F hH hS hl
  have hq : ((Value.ref (20000 + w) :: st).map (av G)) = .ref (gV G w) :: st.map (av G) := by
    simp only [List.map_cons, av, gAd_V (Nat.lt_trans hw (by decide : 13 < 10000))]
  rw [hq]
  have h2 := va_T.moved F.2.2.2.2.2.2.2.1.alike ((hG.2.2.2.2.2.1 w hw).2.2.2.kept (fun a h1 _ => F.2.2.2.2.2.2.2.2.2.1 a h1))
  exact va_tlen F.1 F.2.1 h2 hS rfl hd (K p e s m args below meth c H locs ls F hH hS hl)
theorem aw_sbld {i x : Int32} (hG : gOK G) (hw : w < 13) (hi : vp_in i (sLenN w)) (hx : (sBy.getD w []).getD i.toNatClampNeg 0 = x) (hd : decode (aMb M) pc = .ok (.baload, 1)) (hn : pc + 1 = n) (K : AW G R M fr kc ks n al (.int x :: st) shp D Q) : AW G R M fr kc ks pc al (.int i :: .ref (20000 + w) :: st) shp D Q := by
  subst hn; subst hx
  intro p e s m args below meth c H locs ls F hH hS hl
  have hq : ((Value.int i :: .ref (20000 + w) :: st).map (av G)) = .int i :: .ref (gV G w) :: st.map (av G) := by
    simp only [List.map_cons, av, gAd_V (Nat.lt_trans hw (by decide : 13 < 10000))]
  rw [hq]
  have h2 := va_T.moved F.2.2.2.2.2.2.2.1.alike ((hG.2.2.2.2.2.1 w hw).2.2.2.kept (fun a h1 _ => F.2.2.2.2.2.2.2.2.2.1 a h1))
  exact va_tb F.1 F.2.1 h2 hS hi rfl hd (K p e s m args below meth c H locs ls F hH hS hl)
theorem aw_scomp {idx : Nat} (hG : gOK G) (hL : Cond.fieldLink (aMo M) idx "java/lang/String" "COMPACT_STRINGS" "Z" ∈ aU) (hd : decode (aMb M) pc = .ok (.getstatic idx, 3)) (hn : pc + 3 = n) (K : AW G R M fr kc ks n al (.int 1 :: st) shp D Q) : AW G R M fr kc ks pc al st shp D Q := by
  subst hn
  intro p e s m args below meth c H locs ls F hH hS hl
  have h2 := va_Z.moved F.2.2.2.2.2.2.2.1.alike (hG.2.2.2.2.2.2.1.kept (fun a h1 _ => F.2.2.2.2.2.2.2.2.2.1 a h1))
  exact va_gets F.1 F.2.1 h2 hS F.2.2.2.1 (F.2.2.2.2.1 _ hL) (fun _ h => h) hd (K p e s m args below meth c H locs ls F hH hS hl)
theorem aw_sform {idx : Nat} (hG : gOK G) (hL : Cond.fieldLink (aMo M) idx "jdk/internal/util/Preconditions" "SIOOBE_FORMATTER" "Ljava/util/function/BiFunction;" ∈ aU) (hd : decode (aMb M) pc = .ok (.getstatic idx, 3)) (hn : pc + 3 = n) (K : ∀ z : Value, (z = .null ∨ ∃ q, z = .ref q) → AW G R M fr kc ks n al (z :: st) shp D Q) : AW G R M fr kc ks pc al st shp D Q := by
  subst hn
  intro p e s m args below meth c H locs ls F hH hS hl
  have h2 := va_Zq.moved F.2.2.2.2.2.2.2.1.alike (hG.2.2.2.2.2.2.2.kept (fun a h1 _ => F.2.2.2.2.2.2.2.2.2.1 a h1))
  rcases h2 with h2 | ⟨t, h2⟩
  · exact va_gets F.1 F.2.1 h2 hS F.2.2.2.1 (F.2.2.2.2.1 _ hL) (fun _ h => h) hd (K .null (Or.inl rfl) p e s m args below meth c H locs ls F hH hS hl)
  · have h9 := K (.ref (40000 + t)) (Or.inr ⟨_, rfl⟩) p e s m args below meth c H locs ls F hH hS hl
    have hq2 : ((Value.ref (40000 + t) :: st).map (av G)) = .ref t :: st.map (av G) := by
      simp only [List.map_cons, av, gAd_X]
    rw [hq2] at h9
    exact va_gets F.1 F.2.1 h2 hS F.2.2.2.1 (F.2.2.2.2.1 _ hL) (fun _ h => h) hd h9
def aLkT (own : String) (idx : Nat) (M' : aM) : Prop := Cond.methodLink own idx (aMn M') ∈ aU ∧ Cond.instanceMethod (aMn M') ∈ aU ∧ Cond.selects (aMo M') (aMn M') (aMn M') ∈ aU ∧ Cond.initialized (aMo M') ∈ aU ∧ Cond.code (aMn M') (aMb M') (aMl M') (aMr M') ∈ aU ∧ aMo M' = "java/lang/String" ∧ aNH (aMo M')
theorem aw_callT0 {M' : aM} {R' : Room} {idx : Nat} {As rest : List Value} {fr' : Option Nat} {Q' : aQ} (hG : gOK G) (hw : w < 13) (hLk : aLkT (aMo M) idx M') (hnp : (parseMethodDescriptor (aMn M').desc).map (fun d => d.parameters.length) = some As.length) (hst : st = As.reverse ++ .ref (10000 + w) :: rest) (hC : AC G R' M' (.ref (10000 + w) :: As) fr' shp D Q') (hf : R'.frames + 1 ≤ R.frames) (hlo : 8 + (aMl M' + 11) + R'.locals ≤ R.locals) (hcat : (rest.map (fun v => v.category)).sum ≤ 8) (hkc : kc + R'.cells ≤ R.cells) (hks : ks + R'.slots ≤ R.slots) (hfr : aFr fr fr' kc shp) (hd : decode (aMb M) pc = .ok (.invokevirtual idx, 3)) (hn : pc + 3 = n)
    (KX : ∀ (E : String) (shp' : List aSh) (D' : aD), Q' (.inr E) shp' D' → AX G R M fr (kc + R'.cells) (ks + R'.slots) pc al rest shp' D' Q E)
    (K : ∀ (v : Option Value) (shp' : List aSh) (D' : aD), Q' (.inl v) shp' D' → AW G R M fr (kc + R'.cells) (ks + R'.slots) n al (v.toList ++ rest) shp' D' Q) : AW G R M fr kc ks pc al st shp D Q := by
  subst hn; subst hst
  intro p e s m args below meth c H locs ls F hH hS hl T hT X
  obtain ⟨g1, g2, g3, g4, g5, g6, g7, g8⟩ := hLk
  have hsz := aFr_at (G := G) (D := D) hfr F.2.2.2.2.2.2.2.2.2.2.2.2 X (by rw [hT]; exact hH)
  have hT' : T.heap = H := hT
  have hrec : ∃ cell : Cell, H[gAd G (10000 + w)]? = some cell ∧ cell.vm.isStatics = false ∧ s.vm.findClass (aMo M') = some cell.cls := by
    rw [gAd_K (Nat.lt_trans hw (by decide : 13 < 10000)), g6]
    obtain ⟨cell, h1, h2, h3, -⟩ := (va_O.moved F.2.2.2.2.2.2.2.1.alike ((hG.2.2.2.2.2.1 w hw).1.kept (fun a h1 _ => F.2.2.2.2.2.2.2.2.2.1 a h1))).kept hS.2.1
    exact ⟨cell, h1, h2, h3⟩
  revert T
  intro T hT X hsz hT'
  rw [map_rev]
  refine aw_of_run (vx_runV (As := As.map (av G)) (rest := rest.map (av G)) (n := As.length) (maxL := aMl M') (bytes := aMb M') (ret := aMr M') (C := aMo M') (b := gAd G (10000 + w)) (Ts := aU) (cc := aMb M) (nL := aMl M) ⟨F.1, F.2.1, F.2.2.1, F.2.2.2.1, F.2.2.2.2.1⟩ hC (cwV As.length F.2.2.2.2.1 (goodAll (fun w hw => ?_)) rfl rfl rfl ⟨rfl, g7, g8, hnp⟩ ⟨hf, hlo⟩) ⟨aPc_blind, hrec, fun U hU hW => ⟨rfl, State.WarmedH.trans F.2.2.2.2.2.2.2.1 hW, by rw [hU]; exact hH, fun n0 h0 => by rw [hU, ← hT']; exact hsz n0 h0⟩⟩ rfl (by simp) hl.1 rfl (lv_room (by rw [cat_map]; exact hcat)) hd ⟨hkc, hks⟩) hS (fun v shp' D' H1 locs1 hQ hH1 hS1 => ?_) (fun E q ce shp' D' H1 locs1 hQ hH1 hS1 hce hv hcl => KX E shp' D' hQ p e s m args below meth c H1 locs1 ls F hH1 hS1 hl q ce hce hv hcl) T hT X
  · unfold wsV at hw
    rcases List.mem_append.mp hw with h | h
    · simp only [List.mem_cons, List.not_mem_nil, or_false] at h
      rcases h with rfl | rfl | rfl | rfl
      · exact g1
      · exact g2
      · exact g3
      · exact g4
    · exact aWs_in g5 w h
  · rw [ret_map]
    exact K v shp' D' hQ p e s m args below meth c H1 locs1 ls F hH1 hS1 hl
theorem aw_callT {M' : aM} {R' : Room} {idx : Nat} {As rest : List Value} {fr' : Option Nat} {Q' : aQ} (hG : gOK G) (hw : w < 13) (hLk : aLkT (aMo M) idx M') (hnp : (parseMethodDescriptor (aMn M').desc).map (fun d => d.parameters.length) = some As.length) (hst : st = As.reverse ++ .ref (10000 + w) :: rest) (hC : AC G R' M' (.ref (10000 + w) :: As) fr' shp D Q') (hf : R'.frames + 1 ≤ R.frames) (hlo : 8 + (aMl M' + 11) + R'.locals ≤ R.locals) (hcat : (rest.map (fun v => v.category)).sum ≤ 8) (hkc : kc + R'.cells ≤ R.cells) (hks : ks + R'.slots ≤ R.slots) (hfr : aFr fr fr' kc shp) (hd : decode (aMb M) pc = .ok (.invokevirtual idx, 3)) (hn : pc + 3 = n) (hz : aMt M = [] ∨ ∀ (E : String) (shp' : List aSh) (D' : aD), ¬ Q' (.inr E) shp' D')
    (KX : ∀ (E : String) (shp' : List aSh) (D' : aD), Q' (.inr E) shp' D' → Q (.inr E) shp' D')
    (K : ∀ (v : Option Value) (shp' : List aSh) (D' : aD), Q' (.inl v) shp' D' → AW G R M fr (kc + R'.cells) (ks + R'.slots) n al (v.toList ++ rest) shp' D' Q) : AW G R M fr kc ks pc al st shp D Q :=
  aw_callT0 hG hw hLk hnp hst hC hf hlo hcat hkc hks hfr hd hn (fun E shp' D' hq => AX.or hz hq (KX E shp' D' hq) hkc hks) K
theorem aw_cTi {M' : aM} {d' d mc ms idx np : Nat} {As rest : List Value} {K' : Int32 → aD → Prop} (hG : gOK G) (hw : w < 13) (hLk : aLkT (aMo M) idx M' ∧ aNp M' = some np) (hAs : As.length = np) (hst : st = As.reverse ++ .ref (10000 + w) :: rest) (hC : AC G (aRm d' 0 0) M' (.ref (10000 + w) :: As) none shp D (aQi shp K')) (hR : aFit d' d M' = true) (hcat : (rest.map (fun v => v.category)).sum ≤ 8) (hkc : kc ≤ mc) (hks : ks ≤ ms) (hd : decode (aMb M) pc = .ok (.invokevirtual idx, 3)) (hn : pc + 3 = n) (K : ∀ (r : Int32) (D' : aD), K' r D' → AW G (aRm d mc ms) M fr kc ks n al (.int r :: rest) shp D' Q) : AW G (aRm d mc ms) M fr kc ks pc al st shp D Q := by
  refine aw_callT (R' := aRm d' 0 0) (rest := rest) hG hw hLk.1 (by rw [hAs]; exact hLk.2) hst hC (aFit_ok hR).1 (aFit_ok hR).2 hcat hkc hks (Or.inl rfl) hd hn (Or.inr (fun E shp' D' hq => by obtain ⟨r, e, -⟩ := hq; cases e)) (fun E shp' D' hq => ?_) (fun v shp' D' hq => ?_)
  · obtain ⟨r, e, -⟩ := hq; cases e
  · obtain ⟨r, e, rfl, hk⟩ := hq; cases e; exact K r D' hk
theorem aw_i2c {x y : Int32} (hd : decode (aMb M) pc = .ok (.i2c, 1)) (hn : pc + 1 = n) (hy : (x.toUInt32 % 65536).toInt32 = y) (K : AW G R M fr kc ks n al (.int y :: st) shp D Q) : AW G R M fr kc ks pc al (.int x :: st) shp D Q := by
  subst hn
  intro p e s m args below meth c H locs ls F hH hS hl
  exact lv_i2c F.1 F.2.1 hd hy (K p e s m args below meth c H locs ls F hH hS hl)
theorem sCh_ok : ∀ w, w < 13 → ∀ j, j < sLenN w → ((((sBy.getD w []).getD j 0 &&& 255).toUInt32 % 65536).toInt32 = (sBy.getD w []).getD j 0 ∧ narrow .char (.int ((sBy.getD w []).getD j 0)) = .int ((sBy.getD w []).getD j 0)) := by decide +kernel
end STR

def M_J0_coder_7d493 : aM := (yJ0_coder_7d493, cJ0_coder_7d493, 1, some .byte, [])
theorem dJ0_coder_7d493_0 : decode cJ0_coder_7d493 0 = .ok (.getstatic 38, 3) := by decide +kernel
theorem dJ0_coder_7d493_3 : decode cJ0_coder_7d493 3 = .ok (.ifCond .eq 10, 3) := by decide +kernel
theorem dJ0_coder_7d493_6 : decode cJ0_coder_7d493 6 = .ok (.aload_n 0, 1) := by decide +kernel
theorem dJ0_coder_7d493_7 : decode cJ0_coder_7d493 7 = .ok (.getfield 15, 3) := by decide +kernel
theorem dJ0_coder_7d493_10 : decode cJ0_coder_7d493 10 = .ok (.goto 4, 3) := by decide +kernel
theorem dJ0_coder_7d493_13 : decode cJ0_coder_7d493 13 = .ok (.iconst 1, 1) := by decide +kernel
theorem dJ0_coder_7d493_14 : decode cJ0_coder_7d493 14 = .ok (.ireturn, 1) := by decide +kernel
def M_J0_isLatin1_aae02 : aM := (yJ0_isLatin1_aae02, cJ0_isLatin1_aae02, 1, some .boolean, [])
theorem dJ0_isLatin1_aae02_0 : decode cJ0_isLatin1_aae02 0 = .ok (.getstatic 38, 3) := by decide +kernel
theorem dJ0_isLatin1_aae02_3 : decode cJ0_isLatin1_aae02 3 = .ok (.ifCond .eq 14, 3) := by decide +kernel
theorem dJ0_isLatin1_aae02_6 : decode cJ0_isLatin1_aae02 6 = .ok (.aload_n 0, 1) := by decide +kernel
theorem dJ0_isLatin1_aae02_7 : decode cJ0_isLatin1_aae02 7 = .ok (.getfield 15, 3) := by decide +kernel
theorem dJ0_isLatin1_aae02_10 : decode cJ0_isLatin1_aae02 10 = .ok (.ifCond .ne 7, 3) := by decide +kernel
theorem dJ0_isLatin1_aae02_13 : decode cJ0_isLatin1_aae02 13 = .ok (.iconst 1, 1) := by decide +kernel
theorem dJ0_isLatin1_aae02_14 : decode cJ0_isLatin1_aae02 14 = .ok (.goto 4, 3) := by decide +kernel
theorem dJ0_isLatin1_aae02_17 : decode cJ0_isLatin1_aae02 17 = .ok (.iconst 0, 1) := by decide +kernel
theorem dJ0_isLatin1_aae02_18 : decode cJ0_isLatin1_aae02 18 = .ok (.ireturn, 1) := by decide +kernel
def M_J0_length_8abf5 : aM := (yJ0_length_8abf5, cJ0_length_8abf5, 1, some .int, [])
theorem dJ0_length_8abf5_0 : decode cJ0_length_8abf5 0 = .ok (.aload_n 0, 1) := by decide +kernel
theorem dJ0_length_8abf5_1 : decode cJ0_length_8abf5 1 = .ok (.getfield 9, 3) := by decide +kernel
theorem dJ0_length_8abf5_4 : decode cJ0_length_8abf5 4 = .ok (.arraylength, 1) := by decide +kernel
theorem dJ0_length_8abf5_5 : decode cJ0_length_8abf5 5 = .ok (.aload_n 0, 1) := by decide +kernel
theorem dJ0_length_8abf5_6 : decode cJ0_length_8abf5 6 = .ok (.invokevirtual 335, 3) := by decide +kernel
theorem dJ0_length_8abf5_9 : decode cJ0_length_8abf5 9 = .ok (.ishr, 1) := by decide +kernel
theorem dJ0_length_8abf5_10 : decode cJ0_length_8abf5 10 = .ok (.ireturn, 1) := by decide +kernel
def M_J0_charAt_5068e : aM := (yJ0_charAt_5068e, cJ0_charAt_5068e, 2, some .char, [])
theorem dJ0_charAt_5068e_0 : decode cJ0_charAt_5068e 0 = .ok (.aload_n 0, 1) := by decide +kernel
theorem dJ0_charAt_5068e_1 : decode cJ0_charAt_5068e 1 = .ok (.invokevirtual 492, 3) := by decide +kernel
theorem dJ0_charAt_5068e_4 : decode cJ0_charAt_5068e 4 = .ok (.ifCond .eq 12, 3) := by decide +kernel
theorem dJ0_charAt_5068e_7 : decode cJ0_charAt_5068e 7 = .ok (.aload_n 0, 1) := by decide +kernel
theorem dJ0_charAt_5068e_8 : decode cJ0_charAt_5068e 8 = .ok (.getfield 9, 3) := by decide +kernel
theorem dJ0_charAt_5068e_11 : decode cJ0_charAt_5068e 11 = .ok (.iload_n 1, 1) := by decide +kernel
theorem dJ0_charAt_5068e_12 : decode cJ0_charAt_5068e 12 = .ok (.invokestatic 495, 3) := by decide +kernel
theorem dJ0_charAt_5068e_15 : decode cJ0_charAt_5068e 15 = .ok (.ireturn, 1) := by decide +kernel
theorem dJ0_charAt_5068e_16 : decode cJ0_charAt_5068e 16 = .ok (.aload_n 0, 1) := by decide +kernel
theorem dJ0_charAt_5068e_17 : decode cJ0_charAt_5068e 17 = .ok (.getfield 9, 3) := by decide +kernel
theorem dJ0_charAt_5068e_20 : decode cJ0_charAt_5068e 20 = .ok (.iload_n 1, 1) := by decide +kernel
theorem dJ0_charAt_5068e_21 : decode cJ0_charAt_5068e 21 = .ok (.invokestatic 498, 3) := by decide +kernel
theorem dJ0_charAt_5068e_24 : decode cJ0_charAt_5068e 24 = .ok (.ireturn, 1) := by decide +kernel
def M_J0_checkIndex_df160 : aM := (yJ0_checkIndex_df160, cJ0_checkIndex_df160, 2, none, [])
theorem dJ0_checkIndex_df160_0 : decode cJ0_checkIndex_df160 0 = .ok (.iload_n 0, 1) := by decide +kernel
theorem dJ0_checkIndex_df160_1 : decode cJ0_checkIndex_df160 1 = .ok (.iload_n 1, 1) := by decide +kernel
theorem dJ0_checkIndex_df160_2 : decode cJ0_checkIndex_df160 2 = .ok (.getstatic 1053, 3) := by decide +kernel
theorem dJ0_checkIndex_df160_5 : decode cJ0_checkIndex_df160 5 = .ok (.invokestatic 1059, 3) := by decide +kernel
theorem dJ0_checkIndex_df160_8 : decode cJ0_checkIndex_df160 8 = .ok (.pop, 1) := by decide +kernel
theorem dJ0_checkIndex_df160_9 : decode cJ0_checkIndex_df160 9 = .ok (.return_, 1) := by decide +kernel
def M_J1_charAt_3b067 : aM := (yJ1_charAt_3b067, cJ1_charAt_3b067, 2, some .char, [])
theorem dJ1_charAt_3b067_0 : decode cJ1_charAt_3b067 0 = .ok (.iload_n 1, 1) := by decide +kernel
theorem dJ1_charAt_3b067_1 : decode cJ1_charAt_3b067 1 = .ok (.aload_n 0, 1) := by decide +kernel
theorem dJ1_charAt_3b067_2 : decode cJ1_charAt_3b067 2 = .ok (.arraylength, 1) := by decide +kernel
theorem dJ1_charAt_3b067_3 : decode cJ1_charAt_3b067 3 = .ok (.invokestatic 9, 3) := by decide +kernel
theorem dJ1_charAt_3b067_6 : decode cJ1_charAt_3b067 6 = .ok (.aload_n 0, 1) := by decide +kernel
theorem dJ1_charAt_3b067_7 : decode cJ1_charAt_3b067 7 = .ok (.iload_n 1, 1) := by decide +kernel
theorem dJ1_charAt_3b067_8 : decode cJ1_charAt_3b067 8 = .ok (.baload, 1) := by decide +kernel
theorem dJ1_charAt_3b067_9 : decode cJ1_charAt_3b067 9 = .ok (.sipush 255, 3) := by decide +kernel
theorem dJ1_charAt_3b067_12 : decode cJ1_charAt_3b067 12 = .ok (.iand, 1) := by decide +kernel
theorem dJ1_charAt_3b067_13 : decode cJ1_charAt_3b067 13 = .ok (.i2c, 1) := by decide +kernel
theorem dJ1_charAt_3b067_14 : decode cJ1_charAt_3b067 14 = .ok (.ireturn, 1) := by decide +kernel
def M_J3_checkIndex_8e157 : aM := (yJ3_checkIndex_8e157, cJ3_checkIndex_8e157, 3, some .int, [])
theorem dJ3_checkIndex_8e157_0 : decode cJ3_checkIndex_8e157 0 = .ok (.iload_n 0, 1) := by decide +kernel
theorem dJ3_checkIndex_8e157_1 : decode cJ3_checkIndex_8e157 1 = .ok (.ifCond .lt 8, 3) := by decide +kernel
theorem dJ3_checkIndex_8e157_4 : decode cJ3_checkIndex_8e157 4 = .ok (.iload_n 0, 1) := by decide +kernel
theorem dJ3_checkIndex_8e157_5 : decode cJ3_checkIndex_8e157 5 = .ok (.iload_n 1, 1) := by decide +kernel
theorem dJ3_checkIndex_8e157_6 : decode cJ3_checkIndex_8e157 6 = .ok (.if_icmp .lt 10, 3) := by decide +kernel
theorem dJ3_checkIndex_8e157_9 : decode cJ3_checkIndex_8e157 9 = .ok (.aload_n 2, 1) := by decide +kernel
theorem dJ3_checkIndex_8e157_10 : decode cJ3_checkIndex_8e157 10 = .ok (.iload_n 0, 1) := by decide +kernel
theorem dJ3_checkIndex_8e157_11 : decode cJ3_checkIndex_8e157 11 = .ok (.iload_n 1, 1) := by decide +kernel
theorem dJ3_checkIndex_8e157_12 : decode cJ3_checkIndex_8e157 12 = .ok (.invokestatic 95, 3) := by decide +kernel
theorem dJ3_checkIndex_8e157_15 : decode cJ3_checkIndex_8e157 15 = .ok (.athrow, 1) := by decide +kernel
theorem dJ3_checkIndex_8e157_16 : decode cJ3_checkIndex_8e157 16 = .ok (.iload_n 0, 1) := by decide +kernel
theorem dJ3_checkIndex_8e157_17 : decode cJ3_checkIndex_8e157 17 = .ok (.ireturn, 1) := by decide +kernel
theorem fs_comp : Cond.fieldLink "java/lang/String" 38 "java/lang/String" "COMPACT_STRINGS" "Z" ∈ aU := aU_4 145 rfl rfl
theorem fs_form : Cond.fieldLink "java/lang/String" 1053 "jdk/internal/util/Preconditions" "SIOOBE_FORMATTER" "Ljava/util/function/BiFunction;" ∈ aU := aU_4 161 rfl rfl
theorem fs_value : Cond.fieldLink "java/lang/String" 9 "java/lang/String" "value" "[B" ∈ aU := aU_8 208 rfl rfl
theorem fs_coder : Cond.fieldLink "java/lang/String" 15 "java/lang/String" "coder" "B" ∈ aU := aU_8 209 rfl rfl
theorem ls_coder : aLkT "java/lang/String" 335 M_J0_coder_7d493 ∧ aNp M_J0_coder_7d493 = some 0 := ⟨⟨aU_4 141 rfl rfl, aU_4 142 rfl rfl, aU_4 143 rfl rfl, aU_1 20 rfl rfl, aU_4 144 rfl rfl, rfl, ⟨by decide +kernel, by decide +kernel⟩⟩, by decide +kernel⟩
theorem ls_isLatin1 : aLkT "java/lang/String" 492 M_J0_isLatin1_aae02 ∧ aNp M_J0_isLatin1_aae02 = some 0 := ⟨⟨aU_4 151 rfl rfl, aU_4 152 rfl rfl, aU_4 153 rfl rfl, aU_1 20 rfl rfl, aU_4 154 rfl rfl, rfl, ⟨by decide +kernel, by decide +kernel⟩⟩, by decide +kernel⟩
theorem ls_lat : aLkS "java/lang/String" 495 M_J1_charAt_3b067 ∧ aNp M_J1_charAt_3b067 = some 2 := ⟨⟨aU_4 155 rfl rfl, aU_4 156 rfl rfl, aU_1 21 rfl rfl, aU_4 157 rfl rfl, ⟨by decide +kernel, by decide +kernel⟩⟩, by decide +kernel⟩
theorem ls_ci : aLkS "java/lang/StringLatin1" 9 M_J0_checkIndex_df160 ∧ aNp M_J0_checkIndex_df160 = some 2 := ⟨⟨aU_4 158 rfl rfl, aU_4 159 rfl rfl, aU_1 20 rfl rfl, aU_4 160 rfl rfl, ⟨by decide +kernel, by decide +kernel⟩⟩, by decide +kernel⟩
theorem ls_pre : aLkS "java/lang/String" 1059 M_J3_checkIndex_8e157 ∧ aNp M_J3_checkIndex_8e157 = some 3 := ⟨⟨aU_4 163 rfl rfl, aU_4 164 rfl rfl, aU_1 22 rfl rfl, aU_4 165 rfl rfl, ⟨by decide +kernel, by decide +kernel⟩⟩, by decide +kernel⟩
section STR2
variable {G : aG} {fr : Option Nat} {shp : List aSh} {D : aD} {w : Nat} {i n : Int32}
theorem js_coder (hG : gOK G) (hw : w < 13) {K : Int32 → aD → Prop} (h : K 0 D) : AC G (aRm 0 0 0) M_J0_coder_7d493 [.ref (10000 + w)] fr shp D (aQi shp K) := by
  refine AC.of (al := [some (.ref (10000 + w))]) (r := 0) (by decide) (Nat.le_of_ble_eq_true rfl) rfl ?_
  refine aw_scomp (M := M_J0_coder_7d493) (n := 3) hG fs_comp dJ0_coder_7d493_0 rfl ?_
  refine aw_if_eq (n := 6) (tgt := 13) dJ0_coder_7d493_3 rfl (by decide) (fun c => absurd c (by decide)) (fun c => ?_)
  refine aw_aload_n (n := 7) (i := 0) dJ0_coder_7d493_6 rfl rfl rfl ?_
  refine aw_scoder (M := M_J0_coder_7d493) (n := 10) hG hw fs_coder dJ0_coder_7d493_7 rfl ?_
  refine aw_goto (tgt := 14) dJ0_coder_7d493_10 (by decide) ?_
  exact aw_tret (ty := .byte) rfl rfl (by decide) (by decide) dJ0_coder_7d493_14 ⟨_, rfl, rfl, h⟩
theorem js_isLatin1 (hG : gOK G) (hw : w < 13) {K : Int32 → aD → Prop} (h : K 1 D) : AC G (aRm 0 0 0) M_J0_isLatin1_aae02 [.ref (10000 + w)] fr shp D (aQi shp K) := by
  refine AC.of (al := [some (.ref (10000 + w))]) (r := 0) (by decide) (Nat.le_of_ble_eq_true rfl) rfl ?_
  refine aw_scomp (M := M_J0_isLatin1_aae02) (n := 3) hG fs_comp dJ0_isLatin1_aae02_0 rfl ?_
  refine aw_if_eq (n := 6) (tgt := 17) dJ0_isLatin1_aae02_3 rfl (by decide) (fun c => absurd c (by decide)) (fun c => ?_)
  refine aw_aload_n (n := 7) (i := 0) dJ0_isLatin1_aae02_6 rfl rfl rfl ?_
  refine aw_scoder (M := M_J0_isLatin1_aae02) (n := 10) hG hw fs_coder dJ0_isLatin1_aae02_7 rfl ?_
  refine aw_if_ne (n := 13) (tgt := 17) dJ0_isLatin1_aae02_10 rfl (by decide) (fun c => absurd rfl c) (fun c => ?_)
  refine aw_iconst (n := 14) (v := 1) dJ0_isLatin1_aae02_13 rfl (by decide) ?_
  refine aw_goto (tgt := 18) dJ0_isLatin1_aae02_14 (by decide) ?_
  exact aw_zret rfl (by decide) (by decide) (by decide) dJ0_isLatin1_aae02_18 ⟨_, rfl, rfl, h⟩
theorem sLen_sh : ∀ w, w < 13 → sLen w >>> ((0 : Int32) &&& 31) = sLen w := by decide +kernel
theorem js_length (hG : gOK G) (hw : w < 13) {K : Int32 → aD → Prop} (h : K (sLen w) D) : AC G (aRm 2 0 0) M_J0_length_8abf5 [.ref (10000 + w)] fr shp D (aQi shp K) := by
  refine AC.of (al := [some (.ref (10000 + w))]) (r := 0) (by decide) (Nat.le_of_ble_eq_true rfl) rfl ?_
  refine aw_aload_n (n := 1) (i := 0) dJ0_length_8abf5_0 rfl rfl rfl ?_
  refine aw_svalue (M := M_J0_length_8abf5) (n := 4) hG hw fs_value dJ0_length_8abf5_1 rfl ?_
  refine aw_sblen (M := M_J0_length_8abf5) (n := 5) hG hw dJ0_length_8abf5_4 rfl ?_
  refine aw_aload_n (n := 6) (i := 0) dJ0_length_8abf5_5 rfl rfl rfl ?_
  refine aw_cTi (M := M_J0_length_8abf5) (n := 9) (As := []) (rest := [.int (sLen w)]) hG hw ls_coder rfl rfl (js_coder (K := fun r D' => r = 0 ∧ D' = D) hG hw ⟨rfl, rfl⟩) (by decide) (Nat.le_of_ble_eq_true rfl) (by decide) (by decide) dJ0_length_8abf5_6 rfl (fun r D' q => ?_)
  obtain ⟨rfl, rfl⟩ := q
  refine aw_ishr (n := 10) dJ0_length_8abf5_9 rfl ?_
  rw [sLen_sh w hw]
  exact aw_iret rfl (by decide) (by decide) dJ0_length_8abf5_10 ⟨_, rfl, rfl, h⟩
theorem js_pre {z : Value} (h0 : ¬ i < 0) (h1 : i < n) (hc : z = .null ∨ ∃ q, z = .ref q) {K : Int32 → aD → Prop} (h : K i D) : AC G (aRm 0 0 0) M_J3_checkIndex_8e157 [.int i, .int n, z] fr shp D (aQi shp K) := by
  rcases hc with rfl | ⟨q, rfl⟩
  · refine AC.of (al := [some (.int i), some (.int n), some (.null)]) (r := 0) (by decide) (Nat.le_of_ble_eq_true rfl) rfl ?_
    refine aw_iload_n (n := 1) (i := 0) dJ3_checkIndex_8e157_0 rfl rfl rfl ?_
    refine aw_if_lt (n := 4) (tgt := 9) dJ3_checkIndex_8e157_1 rfl (by decide) (fun c => absurd c h0) (fun c => ?_)
    refine aw_iload_n (n := 5) (i := 0) dJ3_checkIndex_8e157_4 rfl rfl rfl ?_
    refine aw_iload_n (n := 6) (i := 1) dJ3_checkIndex_8e157_5 rfl rfl rfl ?_
    refine aw_icmp_lt (n := 9) (tgt := 16) dJ3_checkIndex_8e157_6 rfl (by decide) (fun c => ?_) (fun c => absurd h1 c)
    refine aw_iload_n (n := 17) (i := 0) dJ3_checkIndex_8e157_16 rfl rfl rfl ?_
    exact aw_iret rfl (by decide) (by decide) dJ3_checkIndex_8e157_17 ⟨_, rfl, rfl, h⟩
  · refine AC.of (al := [some (.int i), some (.int n), some (.ref q)]) (r := 0) (by decide) (Nat.le_of_ble_eq_true rfl) rfl ?_
    refine aw_iload_n (n := 1) (i := 0) dJ3_checkIndex_8e157_0 rfl rfl rfl ?_
    refine aw_if_lt (n := 4) (tgt := 9) dJ3_checkIndex_8e157_1 rfl (by decide) (fun c => absurd c h0) (fun c => ?_)
    refine aw_iload_n (n := 5) (i := 0) dJ3_checkIndex_8e157_4 rfl rfl rfl ?_
    refine aw_iload_n (n := 6) (i := 1) dJ3_checkIndex_8e157_5 rfl rfl rfl ?_
    refine aw_icmp_lt (n := 9) (tgt := 16) dJ3_checkIndex_8e157_6 rfl (by decide) (fun c => ?_) (fun c => absurd h1 c)
    refine aw_iload_n (n := 17) (i := 0) dJ3_checkIndex_8e157_16 rfl rfl rfl ?_
    exact aw_iret rfl (by decide) (by decide) dJ3_checkIndex_8e157_17 ⟨_, rfl, rfl, h⟩
theorem js_ci (hG : gOK G) (h0 : ¬ i < 0) (h1 : i < n) {K : aD → Prop} (h : K D) : AC G (aRm 2 0 0) M_J0_checkIndex_df160 [.int i, .int n] fr shp D (aQv shp K) := by
  refine AC.of (al := [some (.int i), some (.int n)]) (r := 0) (by decide) (Nat.le_of_ble_eq_true rfl) rfl ?_
  refine aw_iload_n (n := 1) (i := 0) dJ0_checkIndex_df160_0 rfl rfl rfl ?_
  refine aw_iload_n (n := 2) (i := 1) dJ0_checkIndex_df160_1 rfl rfl rfl ?_
  refine aw_sform (M := M_J0_checkIndex_df160) (n := 5) hG fs_form dJ0_checkIndex_df160_2 rfl (fun z hz => ?_)
  refine aw_cSi (M := M_J0_checkIndex_df160) (n := 8) (As := [.int i, .int n, z]) (rest := []) ls_pre rfl rfl (js_pre (K := fun r D' => r = i ∧ D' = D) h0 h1 hz ⟨rfl, rfl⟩) (by decide) (Nat.le_of_ble_eq_true rfl) (by decide) (by decide) dJ0_checkIndex_df160_5 rfl (fun r D' q => ?_)
  obtain ⟨rfl, rfl⟩ := q
  refine aw_pop (n := 9) dJ0_checkIndex_df160_8 rfl rfl ?_
  exact aw_vret rfl (by decide) (by decide) dJ0_checkIndex_df160_9 ⟨rfl, rfl, h⟩
theorem sLen_lt : ∀ w, w < 13 → ∀ i : Int32, vp_in i (sLenN w) → i < sLen w := by
  intro w hw i hi
  have h1 : i.toNatClampNeg < sLenN w := Nat.not_le.mp fun q => hi (Or.inr q)
  have h2 : (sLen w).toInt = (sLenN w : Int) := (by decide +kernel : ∀ w, w < 13 → (sLen w).toInt = (sLenN w : Int)) w hw
  rw [Int32.lt_iff_toInt_lt, h2]
  have h3 : i.toNatClampNeg = i.toInt.toNat := rfl
  omega
theorem js_lat (hG : gOK G) (hw : w < 13) (hi : vp_in i (sLenN w)) {K : Int32 → aD → Prop} (h : K (sCh w i) D) : AC G (aRm 4 0 0) M_J1_charAt_3b067 [.ref (20000 + w), .int i] fr shp D (aQi shp K) := by
  refine AC.of (al := [some (.ref (20000 + w)), some (.int i)]) (r := 0) (by decide) (Nat.le_of_ble_eq_true rfl) rfl ?_
  refine aw_iload_n (n := 1) (i := 1) dJ1_charAt_3b067_0 rfl rfl rfl ?_
  refine aw_aload_n (n := 2) (i := 0) dJ1_charAt_3b067_1 rfl rfl rfl ?_
  refine aw_sblen (M := M_J1_charAt_3b067) (n := 3) hG hw dJ1_charAt_3b067_2 rfl ?_
  refine aw_cSv (M := M_J1_charAt_3b067) (n := 6) (As := [.int i, .int (sLen w)]) (rest := []) ls_ci rfl rfl (js_ci (K := fun D' => D' = D) hG (fun q => hi (Or.inl q)) (sLen_lt w hw i hi) rfl) (by decide) (Nat.le_of_ble_eq_true rfl) (by decide) (by decide) dJ1_charAt_3b067_3 rfl (fun D' q => ?_)
  subst q
  refine aw_aload_n (n := 7) (i := 0) dJ1_charAt_3b067_6 rfl rfl rfl ?_
  refine aw_iload_n (n := 8) (i := 1) dJ1_charAt_3b067_7 rfl rfl rfl ?_
  refine aw_sbld (M := M_J1_charAt_3b067) (n := 9) hG hw hi rfl dJ1_charAt_3b067_8 rfl ?_
  refine aw_sipush (n := 12) (v := 255) dJ1_charAt_3b067_9 rfl (by decide) ?_
  refine aw_iand (n := 13) dJ1_charAt_3b067_12 rfl ?_
  have h9 := sCh_ok w hw i.toNatClampNeg (Nat.not_le.mp fun q => hi (Or.inr q))
  refine aw_i2c (n := 14) dJ1_charAt_3b067_13 rfl h9.1 ?_
  exact aw_tret (ty := .char) rfl h9.2 (by decide) (by decide) dJ1_charAt_3b067_14 ⟨_, rfl, rfl, h⟩
theorem js_charAt (hG : gOK G) (hw : w < 13) (hi : vp_in i (sLenN w)) {K : Int32 → aD → Prop} (h : K (sCh w i) D) : AC G (aRm 6 0 0) M_J0_charAt_5068e [.ref (10000 + w), .int i] fr shp D (aQi shp K) := by
  refine AC.of (al := [some (.ref (10000 + w)), some (.int i)]) (r := 0) (by decide) (Nat.le_of_ble_eq_true rfl) rfl ?_
  refine aw_aload_n (n := 1) (i := 0) dJ0_charAt_5068e_0 rfl rfl rfl ?_
  refine aw_cTi (M := M_J0_charAt_5068e) (n := 4) (As := []) (rest := []) hG hw ls_isLatin1 rfl rfl (js_isLatin1 (K := fun r D' => r = 1 ∧ D = D') hG hw ⟨rfl, rfl⟩) (by decide) (Nat.le_of_ble_eq_true rfl) (by decide) (by decide) dJ0_charAt_5068e_1 rfl (fun r D' q => ?_)
  obtain ⟨rfl, rfl⟩ := q
  refine aw_if_eq (n := 7) (tgt := 16) dJ0_charAt_5068e_4 rfl (by decide) (fun c => absurd c (by decide)) (fun c => ?_)
  refine aw_aload_n (n := 8) (i := 0) dJ0_charAt_5068e_7 rfl rfl rfl ?_
  refine aw_svalue (M := M_J0_charAt_5068e) (n := 11) hG hw fs_value dJ0_charAt_5068e_8 rfl ?_
  refine aw_iload_n (n := 12) (i := 1) dJ0_charAt_5068e_11 rfl rfl rfl ?_
  refine aw_cSi (M := M_J0_charAt_5068e) (n := 15) (As := [.ref (20000 + w), .int i]) (rest := []) ls_lat rfl rfl (js_lat (K := fun r D' => r = sCh w i ∧ D' = D) hG hw hi ⟨rfl, rfl⟩) (by decide) (Nat.le_of_ble_eq_true rfl) (by decide) (by decide) dJ0_charAt_5068e_12 rfl (fun r D' q => ?_)
  obtain ⟨rfl, rfl⟩ := q
  exact aw_tret (ty := .char) rfl (sCh_ok w hw i.toNatClampNeg (Nat.not_le.mp fun q => hi (Or.inr q))).2 (by decide) (by decide) dJ0_charAt_5068e_15 ⟨_, rfl, rfl, h⟩
end STR2
section STR3
variable {G : aG} {M : aM} {fr : Option Nat} {d mc ms kc ks pc n idx w : Nat} {al : List (Option Value)} {st : List Value} {shp : List aSh} {D : aD} {Q : aQ}
theorem aw_strlen (hG : gOK G) (hLk : aLkT (aMo M) idx M_J0_length_8abf5 ∧ aNp M_J0_length_8abf5 = some 0) (hw : w < 13) (hR : aFit 2 d M_J0_length_8abf5 = true) (hcat : Nat.ble (st.map (fun v => v.category)).sum 8 = true) (hk : Nat.ble kc mc = true ∧ Nat.ble ks ms = true) (hd : decode (aMb M) pc = .ok (.invokevirtual idx, 3)) (hn : pc + 3 = n) (K : AW G (aRm d mc ms) M fr kc ks n al (.int (sLen w) :: st) shp D Q) : AW G (aRm d mc ms) M fr kc ks pc al (.ref (10000 + w) :: st) shp D Q := by
  refine aw_cTi (As := []) (rest := st) hG hw hLk rfl rfl (js_length (K := fun r D' => r = sLen w ∧ D' = D) hG hw ⟨rfl, rfl⟩) hR (Nat.le_of_ble_eq_true hcat) (Nat.le_of_ble_eq_true hk.1) (Nat.le_of_ble_eq_true hk.2) hd hn (fun r D' q => ?_)
  obtain ⟨rfl, rfl⟩ := q
  exact K
theorem aw_strchar {i : Int32} (hG : gOK G) (hLk : aLkT (aMo M) idx M_J0_charAt_5068e ∧ aNp M_J0_charAt_5068e = some 1) (hw : w < 13) (hi : vp_in i (sLenN w)) (hR : aFit 6 d M_J0_charAt_5068e = true) (hcat : Nat.ble (st.map (fun v => v.category)).sum 8 = true) (hk : Nat.ble kc mc = true ∧ Nat.ble ks ms = true) (hd : decode (aMb M) pc = .ok (.invokevirtual idx, 3)) (hn : pc + 3 = n) (K : AW G (aRm d mc ms) M fr kc ks n al (.int (sCh w i) :: st) shp D Q) : AW G (aRm d mc ms) M fr kc ks pc al (.int i :: .ref (10000 + w) :: st) shp D Q := by
  refine aw_cTi (As := [.int i]) (rest := st) hG hw hLk rfl rfl (js_charAt (K := fun r D' => r = sCh w i ∧ D' = D) hG hw hi ⟨rfl, rfl⟩) hR (Nat.le_of_ble_eq_true hcat) (Nat.le_of_ble_eq_true hk.1) (Nat.le_of_ble_eq_true hk.2) hd hn (fun r D' q => ?_)
  obtain ⟨rfl, rfl⟩ := q
  exact K
end STR3
