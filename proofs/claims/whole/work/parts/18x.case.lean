def M_law (nm : String) (tb : List (Nat × Nat × Nat × Nat)) : aM := (⟨"NoseTownLaw", nm, ""⟩, cL_law, 7, ret, tb)
section LAWX
variable {G : aG} {M : aM} {fr : Option Nat} {kc ks pc n d mc ms : Nat} {al : List (Option Value)} {st : List Value} {shp : List aSh} {D : aD} {Q : aQ}
theorem aZ1 {p : Prop} (h : (0 : Int32) = 1) : p := absurd h (by decide)
def aLkX (own : String) (idx : Nat) (M' : aM) : Prop := Cond.methodLink own idx (aMn M') ∈ aU ∧ Cond.static (aMn M') ∈ aU ∧ Cond.initialized (aMo M') ∈ aU ∧ Cond.codeWith (aMn M') (aMb M') (aMl M') (aMr M') (aMt M') ∈ aU ∧ aNH (aMo M')
theorem aWx_in {M' : aM} (h : Cond.codeWith (aMn M') (aMb M') (aMl M') (aMr M') (aMt M') ∈ aU) : ∀ w ∈ aWx M', w ∈ aU := by
  intro w hw
  rcases List.mem_cons.mp hw with rfl | hw
  · exact h
  · exact hw
theorem aw_callX0 {M' : aM} {R R' : Room} {idx : Nat} {As rest : List Value} {fr' : Option Nat} {Q' : aQ} (hLk : aLkX (aMo M) idx M') (hnp : (parseMethodDescriptor (aMn M').desc).map (fun d => d.parameters.length) = some As.length) (hst : st = As.reverse ++ rest) (hC : ACx G R' M' As fr' shp D Q') (hf : R'.frames + 1 ≤ R.frames) (hlo : 8 + (aMl M' + 11) + R'.locals ≤ R.locals) (hcat : (rest.map (fun v => v.category)).sum ≤ 8) (hkc : kc + R'.cells ≤ R.cells) (hks : ks + R'.slots ≤ R.slots) (hfr : aFr fr fr' kc shp) (hd : decode (aMb M) pc = .ok (.invokestatic idx, 3)) (hn : pc + 3 = n)
    (KX : ∀ (E : String) (shp' : List aSh) (D' : aD), Q' (.inr E) shp' D' → AX G R M fr (kc + R'.cells) (ks + R'.slots) pc al rest shp' D' Q E)
    (K : ∀ (v : Option Value) (shp' : List aSh) (D' : aD), Q' (.inl v) shp' D' → AW G R M fr (kc + R'.cells) (ks + R'.slots) n al (v.toList ++ rest) shp' D' Q) : AW G R M fr kc ks pc al st shp D Q := by
  subst hn; subst hst
  intro p e s m args below meth c H locs ls F hH hS hl T hT X
  obtain ⟨g1, g2, g4, g5, g7, g8⟩ := hLk
  have hsz := aFr_at (G := G) (D := D) hfr F.2.2.2.2.2.2.2.2.2.2.2.2 X (by rw [hT]; exact hH)
  have hT' : T.heap = H := hT
  revert T
  intro T hT X hsz hT'
  rw [map_revS]
  refine aw_of_run (vx_runSX (As := As.map (av G)) (rest := rest.map (av G)) (n := As.length) (maxL := aMl M') (bytes := aMb M') (ret := aMr M') (hh := aMt M') (Ts := aU) (cc := aMb M) (nL := aMl M) ⟨F.1, F.2.1, F.2.2.1, F.2.2.2.1, F.2.2.2.2.1⟩ hC (vx_cwSW As.length F.2.2.2.2.1 (goodAll (fun w hw => ?_)) rfl rfl rfl ⟨g7, g8, hnp⟩ ⟨hf, hlo⟩) ⟨aPc_blind, fun U hU hW => ⟨rfl, State.WarmedH.trans F.2.2.2.2.2.2.2.1 hW, by rw [hU]; exact hH, fun n0 h0 => by rw [hU, ← hT']; exact hsz n0 h0⟩⟩ rfl (by simp) hl.1 rfl (lv_room (by rw [cat_map]; exact hcat)) hd ⟨hkc, hks⟩) hS (fun v shp' D' H1 locs1 hQ hH1 hS1 => ?_) (fun E q ce shp' D' H1 locs1 hQ hH1 hS1 hce hv hcl => KX E shp' D' hQ p e s m args below meth c H1 locs1 ls F hH1 hS1 hl q ce hce hv hcl) T hT X
  · unfold va_wsS at hw
    rcases List.mem_append.mp hw with h | h
    · simp only [List.mem_cons, List.not_mem_nil, or_false] at h
      rcases h with rfl | rfl | rfl
      · exact g1
      · exact g2
      · exact g4
    · exact aWx_in g5 w h
  · rw [ret_map]
    exact K v shp' D' hQ p e s m args below meth c H1 locs1 ls F hH1 hS1 hl
theorem aw_cXi {M' : aM} {idx np d' mc' ms' : Nat} {As rest : List Value} {K' : Int32 → aD → Prop} (hLk : aLkX (aMo M) idx M' ∧ aNp M' = some np) (hAs : As.length = np) (hst : st = As.reverse ++ rest) (hC : ACx G (aRm d' mc' ms') M' As none shp D (aQi shp K')) (hR : aFit d' d M' = true) (hcat : (rest.map (fun v => v.category)).sum ≤ 8) (hkc : kc + mc' ≤ mc) (hks : ks + ms' ≤ ms) (hd : decode (aMb M) pc = .ok (.invokestatic idx, 3)) (hn : pc + 3 = n) (K : ∀ (r : Int32) (D' : aD), K' r D' → AW G (aRm d mc ms) M fr (kc + mc') (ks + ms') n al (.int r :: rest) shp D' Q) : AW G (aRm d mc ms) M fr kc ks pc al st shp D Q := by
  refine aw_callX0 (R' := aRm d' mc' ms') (rest := rest) hLk.1 (by rw [hAs]; exact hLk.2) hst hC (aFit_ok hR).1 (aFit_ok hR).2 hcat hkc hks (Or.inl rfl) hd hn (fun E shp' D' hq => ?_) (fun v shp' D' hq => ?_)
  · obtain ⟨r, e, -⟩ := hq; cases e
  · obtain ⟨r, e, rfl, hk⟩ := hq
    cases e
    exact K r D' hk
end LAWX
theorem lw_L_76 : aLkV "NoseTownLaw" 76 11 M_X11_feed ∧ aNp M_X11_feed = some 5 := ⟨⟨aU_3 93 rfl rfl, aU_3 94 rfl rfl, aU_3 95 rfl rfl, aU_1 1 rfl rfl, aU_3 96 rfl rfl, ⟨TX11, 14, rfl⟩, ⟨by decide +kernel, by decide +kernel⟩⟩, by decide +kernel⟩
theorem lw_L_79 : aLkV "NoseTownLaw" 79 12 M_X12_feed ∧ aNp M_X12_feed = some 5 := ⟨⟨aU_7 100 rfl rfl, aU_7 101 rfl rfl, aU_7 102 rfl rfl, aU_1 14 rfl rfl, aU_7 103 rfl rfl, ⟨TX12, 66, rfl⟩, ⟨by decide +kernel, by decide +kernel⟩⟩, by decide +kernel⟩
def f_law_0 (v1 v2 v3 v4 v5 : Int32) (D : aD) : Option (Int32 × aD) :=
  aBi (f_X11_feed v1 v2 v3 v4 v5 D) (fun x0 D => aBi (f_X12_feed v1 v2 v3 v4 v5 D) (fun x1 D => if x0 = x1 then some (1, D) else some (0, D)))
set_option maxRecDepth 100000 in
set_option maxHeartbeats 1000000 in
theorem law_case_0 {G : aG} (hG : gOK G) (hN : va_Nc "java/lang/IllegalArgumentException" "java/util/NoSuchElementException" (gs G)) {shp : List aSh} (hS : aShp shp) {nm : String} {tb : List (Nat × Nat × Nat × Nat)} {fr : Option Nat} {kc ks : Nat} {i : Int32} {D : aD} {Q : aQ} {P : aD → Prop} (hi : ∀ c : Nat, c < 6 → vp_in (i + Int32.ofNat c) (gL G)) (hkc : kc + 4 ≤ 601024) (hks : ks + 24 ≤ 7293034) (h : Ok2 (f_law_0 (gx G (i + 1).toNatClampNeg) (gx G (i + 2).toNatClampNeg) (gx G (i + 3).toNatClampNeg) (gx G (i + 4).toNatClampNeg) (gx G (i + 5).toNatClampNeg) D) (fun r D => r = 1 ∧ P D)) (KT : ∀ D : aD, P D → AW G (aRm 1024 601024 7293034) (M_law nm tb) fr (kc + 4) (ks + 24) 1683 [some (.ref 30000), some (.ref 0), some (.ref 88), some (.ref 132), some (.int i), none, none] [] shp D Q) : AW G (aRm 1024 601024 7293034) (M_law nm tb) fr kc ks 164 [some (.ref 30000), some (.ref 0), some (.ref 88), some (.ref 132), some (.int i), none, none] [] shp D Q := by
  unfold f_law_0 at h
  replace h := Ok2.ok h
  refine aw_aload_n (M := (M_law nm tb)) (n := 165) (i := 1) dL_law_164 rfl rfl rfl ?_
  refine aw_aload_n (M := (M_law nm tb)) (n := 166) (i := 0) dL_law_165 rfl rfl rfl ?_
  refine aw_iload (M := (M_law nm tb)) (n := 168) dL_law_166 rfl rfl ?_
  refine aw_iconst (M := (M_law nm tb)) (n := 169) (v := 1) dL_law_168 rfl (by decide) ?_
  refine aw_iadd (M := (M_law nm tb)) (n := 170) dL_law_169 rfl ?_
  refine aw_sld (M := (M_law nm tb)) (n := 171) hG.2.1 hG.2.2.1 (hi 1 (by decide)) dL_law_170 rfl ?_
  refine aw_aload_n (M := (M_law nm tb)) (n := 172) (i := 0) dL_law_171 rfl rfl rfl ?_
  refine aw_iload (M := (M_law nm tb)) (n := 174) dL_law_172 rfl rfl ?_
  refine aw_iconst (M := (M_law nm tb)) (n := 175) (v := 2) dL_law_174 rfl (by decide) ?_
  refine aw_iadd (M := (M_law nm tb)) (n := 176) dL_law_175 rfl ?_
  refine aw_sld (M := (M_law nm tb)) (n := 177) hG.2.1 hG.2.2.1 (hi 2 (by decide)) dL_law_176 rfl ?_
  refine aw_aload_n (M := (M_law nm tb)) (n := 178) (i := 0) dL_law_177 rfl rfl rfl ?_
  refine aw_iload (M := (M_law nm tb)) (n := 180) dL_law_178 rfl rfl ?_
  refine aw_iconst (M := (M_law nm tb)) (n := 181) (v := 3) dL_law_180 rfl (by decide) ?_
  refine aw_iadd (M := (M_law nm tb)) (n := 182) dL_law_181 rfl ?_
  refine aw_sld (M := (M_law nm tb)) (n := 183) hG.2.1 hG.2.2.1 (hi 3 (by decide)) dL_law_182 rfl ?_
  refine aw_aload_n (M := (M_law nm tb)) (n := 184) (i := 0) dL_law_183 rfl rfl rfl ?_
  refine aw_iload (M := (M_law nm tb)) (n := 186) dL_law_184 rfl rfl ?_
  refine aw_iconst (M := (M_law nm tb)) (n := 187) (v := 4) dL_law_186 rfl (by decide) ?_
  refine aw_iadd (M := (M_law nm tb)) (n := 188) dL_law_187 rfl ?_
  refine aw_sld (M := (M_law nm tb)) (n := 189) hG.2.1 hG.2.2.1 (hi 4 (by decide)) dL_law_188 rfl ?_
  refine aw_aload_n (M := (M_law nm tb)) (n := 190) (i := 0) dL_law_189 rfl rfl rfl ?_
  refine aw_iload (M := (M_law nm tb)) (n := 192) dL_law_190 rfl rfl ?_
  refine aw_iconst (M := (M_law nm tb)) (n := 193) (v := 5) dL_law_192 rfl (by decide) ?_
  refine aw_iadd (M := (M_law nm tb)) (n := 194) dL_law_193 rfl ?_
  refine aw_sld (M := (M_law nm tb)) (n := 195) hG.2.1 hG.2.2.1 (hi 5 (by decide)) dL_law_194 rfl ?_
  refine aw_cVi (M := (M_law nm tb)) (n := 198) (As := [.int (gx G (i + 1).toNatClampNeg), .int (gx G (i + 2).toNatClampNeg), .int (gx G (i + 3).toNatClampNeg), .int (gx G (i + 4).toNatClampNeg), .int (gx G (i + 5).toNatClampNeg)]) (rest := []) hG.1 lw_L_76 rfl rfl (sF_0 hS) (c_X11_feed hG hS (h := Ok.bi h)) (by decide) (Nat.le_of_ble_eq_true rfl) (by omega) (by omega) dL_law_195 rfl (fun x0 D h => ?_)
  refine aw_aload_n (M := (M_law nm tb)) (n := 199) (i := 2) dL_law_198 rfl rfl rfl ?_
  refine aw_aload_n (M := (M_law nm tb)) (n := 200) (i := 0) dL_law_199 rfl rfl rfl ?_
  refine aw_iload (M := (M_law nm tb)) (n := 202) dL_law_200 rfl rfl ?_
  refine aw_iconst (M := (M_law nm tb)) (n := 203) (v := 1) dL_law_202 rfl (by decide) ?_
  refine aw_iadd (M := (M_law nm tb)) (n := 204) dL_law_203 rfl ?_
  refine aw_sld (M := (M_law nm tb)) (n := 205) hG.2.1 hG.2.2.1 (hi 1 (by decide)) dL_law_204 rfl ?_
  refine aw_aload_n (M := (M_law nm tb)) (n := 206) (i := 0) dL_law_205 rfl rfl rfl ?_
  refine aw_iload (M := (M_law nm tb)) (n := 208) dL_law_206 rfl rfl ?_
  refine aw_iconst (M := (M_law nm tb)) (n := 209) (v := 2) dL_law_208 rfl (by decide) ?_
  refine aw_iadd (M := (M_law nm tb)) (n := 210) dL_law_209 rfl ?_
  refine aw_sld (M := (M_law nm tb)) (n := 211) hG.2.1 hG.2.2.1 (hi 2 (by decide)) dL_law_210 rfl ?_
  refine aw_aload_n (M := (M_law nm tb)) (n := 212) (i := 0) dL_law_211 rfl rfl rfl ?_
  refine aw_iload (M := (M_law nm tb)) (n := 214) dL_law_212 rfl rfl ?_
  refine aw_iconst (M := (M_law nm tb)) (n := 215) (v := 3) dL_law_214 rfl (by decide) ?_
  refine aw_iadd (M := (M_law nm tb)) (n := 216) dL_law_215 rfl ?_
  refine aw_sld (M := (M_law nm tb)) (n := 217) hG.2.1 hG.2.2.1 (hi 3 (by decide)) dL_law_216 rfl ?_
  refine aw_aload_n (M := (M_law nm tb)) (n := 218) (i := 0) dL_law_217 rfl rfl rfl ?_
  refine aw_iload (M := (M_law nm tb)) (n := 220) dL_law_218 rfl rfl ?_
  refine aw_iconst (M := (M_law nm tb)) (n := 221) (v := 4) dL_law_220 rfl (by decide) ?_
  refine aw_iadd (M := (M_law nm tb)) (n := 222) dL_law_221 rfl ?_
  refine aw_sld (M := (M_law nm tb)) (n := 223) hG.2.1 hG.2.2.1 (hi 4 (by decide)) dL_law_222 rfl ?_
  refine aw_aload_n (M := (M_law nm tb)) (n := 224) (i := 0) dL_law_223 rfl rfl rfl ?_
  refine aw_iload (M := (M_law nm tb)) (n := 226) dL_law_224 rfl rfl ?_
  refine aw_iconst (M := (M_law nm tb)) (n := 227) (v := 5) dL_law_226 rfl (by decide) ?_
  refine aw_iadd (M := (M_law nm tb)) (n := 228) dL_law_227 rfl ?_
  refine aw_sld (M := (M_law nm tb)) (n := 229) hG.2.1 hG.2.2.1 (hi 5 (by decide)) dL_law_228 rfl ?_
  refine aw_cVi (M := (M_law nm tb)) (n := 232) (As := [.int (gx G (i + 1).toNatClampNeg), .int (gx G (i + 2).toNatClampNeg), .int (gx G (i + 3).toNatClampNeg), .int (gx G (i + 4).toNatClampNeg), .int (gx G (i + 5).toNatClampNeg)]) (rest := [.int x0]) hG.1 lw_L_79 rfl rfl (sF_88 hS) (c_X12_feed hG hS (h := Ok.bi h)) (by decide) (Nat.le_of_ble_eq_true rfl) (by omega) (by omega) dL_law_229 rfl (fun x1 D h => ?_)
  refine aw_icmp_eq (M := (M_law nm tb)) (n := 235) (tgt := 1683) dL_law_232 rfl (by decide) (fun c => ?_) (fun c => ?_)
  rotate_left
  · exact aZ1 (Ok.dn (Ok.iff h c) :).1
  replace h := Ok.ift h c
  exact aw_le' (al' := [some (.ref 30000), some (.ref 0), some (.ref 88), some (.ref 132), some (.int i), none, none]) (aw_wid (by omega) (by omega) (KT _ (Ok.dn h :).2)) (by exact ⟨rfl, rfl, rfl, rfl, rfl, trivial⟩)
theorem lw_L_80 : aLkX "NoseTownLaw" 80 M_L_town ∧ aNp M_L_town = some 3 := ⟨⟨aU_4 39 rfl rfl, aU_4 40 rfl rfl, aU_1 0 rfl rfl, aU_4 41 rfl rfl, ⟨by decide +kernel, by decide +kernel⟩⟩, by decide +kernel⟩
theorem lw_L_85 : aLkV "NoseTownLaw" 85 12 M_X12_town ∧ aNp M_X12_town = some 1 := ⟨⟨aU_7 104 rfl rfl, aU_7 105 rfl rfl, aU_7 106 rfl rfl, aU_1 14 rfl rfl, aU_7 107 rfl rfl, ⟨TX12, 66, rfl⟩, ⟨by decide +kernel, by decide +kernel⟩⟩, by decide +kernel⟩
theorem lw_L_86 : aLkV "NoseTownLaw" 86 12 M_X12_thrown ∧ aNp M_X12_thrown = some 0 := ⟨⟨aU_7 96 rfl rfl, aU_7 97 rfl rfl, aU_7 98 rfl rfl, aU_1 14 rfl rfl, aU_7 99 rfl rfl, ⟨TX12, 66, rfl⟩, ⟨by decide +kernel, by decide +kernel⟩⟩, by decide +kernel⟩
def f_law_1 (v1 v2 v3 v4 v5 : Int32) (D : aD) : Option (Int32 × aD) :=
  aBi (f_L_town v1 D) (fun x0 D => aBi (f_X12_town v1 D) (fun x1 D => aBi (f_X12_thrown D) (fun x2 D => if x2 = x0 then if x0 ≠ 0 then some (1, D) else if (lg_cmp (gJ D 132 0) x1.toInt64) = 0 then some (1, D) else some (0, D) else some (0, D))))
set_option maxRecDepth 100000 in
set_option maxHeartbeats 1000000 in
theorem law_case_1 {G : aG} (hG : gOK G) (hN : va_Nc "java/lang/IllegalArgumentException" "java/util/NoSuchElementException" (gs G)) {shp : List aSh} (hS : aShp shp) {nm : String} {tb : List (Nat × Nat × Nat × Nat)} {fr : Option Nat} {kc ks : Nat} {i : Int32} {D : aD} {Q : aQ} {P : aD → Prop} (hi : ∀ c : Nat, c < 6 → vp_in (i + Int32.ofNat c) (gL G)) (hkc : kc + 4 ≤ 601024) (hks : ks + 24 ≤ 7293034) (h : Ok2 (f_law_1 (gx G (i + 1).toNatClampNeg) (gx G (i + 2).toNatClampNeg) (gx G (i + 3).toNatClampNeg) (gx G (i + 4).toNatClampNeg) (gx G (i + 5).toNatClampNeg) D) (fun r D => r = 1 ∧ P D)) (KT : ∀ D : aD, P D → AW G (aRm 1024 601024 7293034) (M_law nm tb) fr (kc + 4) (ks + 24) 1683 [some (.ref 30000), some (.ref 0), some (.ref 88), some (.ref 132), some (.int i), none, none] [] shp D Q) : AW G (aRm 1024 601024 7293034) (M_law nm tb) fr kc ks 237 [some (.ref 30000), some (.ref 0), some (.ref 88), some (.ref 132), some (.int i), none, none] [] shp D Q := by
  unfold f_law_1 at h
  replace h := Ok2.ok h
  refine aw_aload_n (M := (M_law nm tb)) (n := 238) (i := 1) dL_law_237 rfl rfl rfl ?_
  refine aw_aload_n (M := (M_law nm tb)) (n := 239) (i := 0) dL_law_238 rfl rfl rfl ?_
  refine aw_iload (M := (M_law nm tb)) (n := 241) dL_law_239 rfl rfl ?_
  refine aw_iconst (M := (M_law nm tb)) (n := 242) (v := 1) dL_law_241 rfl (by decide) ?_
  refine aw_iadd (M := (M_law nm tb)) (n := 243) dL_law_242 rfl ?_
  refine aw_sld (M := (M_law nm tb)) (n := 244) hG.2.1 hG.2.2.1 (hi 1 (by decide)) dL_law_243 rfl ?_
  refine aw_aload_n (M := (M_law nm tb)) (n := 245) (i := 3) dL_law_244 rfl rfl rfl ?_
  refine aw_cXi (M := (M_law nm tb)) (n := 248) (As := [.ref 0, .int (gx G (i + 1).toNatClampNeg), .ref 132]) (rest := []) lw_L_80 rfl rfl (c_L_town hG hN hS (h := Ok.bi h)) (by decide) (Nat.le_of_ble_eq_true rfl) (by omega) (by omega) dL_law_245 rfl (fun x0 D h => ?_)
  refine aw_istore (M := (M_law nm tb)) (n := 250) (al' := [some (.ref 30000), some (.ref 0), some (.ref 88), some (.ref 132), some (.int i), some (.int x0), none]) dL_law_248 rfl rfl (Nat.le_of_ble_eq_true rfl) rfl ?_
  refine aw_aload_n (M := (M_law nm tb)) (n := 251) (i := 2) dL_law_250 rfl rfl rfl ?_
  refine aw_aload_n (M := (M_law nm tb)) (n := 252) (i := 0) dL_law_251 rfl rfl rfl ?_
  refine aw_iload (M := (M_law nm tb)) (n := 254) dL_law_252 rfl rfl ?_
  refine aw_iconst (M := (M_law nm tb)) (n := 255) (v := 1) dL_law_254 rfl (by decide) ?_
  refine aw_iadd (M := (M_law nm tb)) (n := 256) dL_law_255 rfl ?_
  refine aw_sld (M := (M_law nm tb)) (n := 257) hG.2.1 hG.2.2.1 (hi 1 (by decide)) dL_law_256 rfl ?_
  refine aw_cVi (M := (M_law nm tb)) (n := 260) (As := [.int (gx G (i + 1).toNatClampNeg)]) (rest := []) hG.1 lw_L_85 rfl rfl (sF_88 hS) (c_X12_town hG hS (h := Ok.bi h)) (by decide) (Nat.le_of_ble_eq_true rfl) (by omega) (by omega) dL_law_257 rfl (fun x1 D h => ?_)
  refine aw_istore (M := (M_law nm tb)) (n := 262) (al' := [some (.ref 30000), some (.ref 0), some (.ref 88), some (.ref 132), some (.int i), some (.int x0), some (.int x1)]) dL_law_260 rfl rfl (Nat.le_of_ble_eq_true rfl) rfl ?_
  refine aw_aload_n (M := (M_law nm tb)) (n := 263) (i := 2) dL_law_262 rfl rfl rfl ?_
  refine aw_cVi (M := (M_law nm tb)) (n := 266) (As := []) (rest := []) hG.1 lw_L_86 rfl rfl (sF_88 hS) (c_X12_thrown hG hS (h := Ok.bi h)) (by decide) (Nat.le_of_ble_eq_true rfl) (by omega) (by omega) dL_law_263 rfl (fun x2 D h => ?_)
  refine aw_iload (M := (M_law nm tb)) (n := 268) dL_law_266 rfl rfl ?_
  refine aw_icmp_eq (M := (M_law nm tb)) (n := 271) (tgt := 273) dL_law_268 rfl (by decide) (fun c => ?_) (fun c => ?_)
  rotate_left
  · exact aZ1 (Ok.dn (Ok.iff h c) :).1
  replace h := Ok.ift h c
  refine aw_iload (M := (M_law nm tb)) (n := 275) dL_law_273 rfl rfl ?_
  refine aw_if_ne (M := (M_law nm tb)) (n := 278) (tgt := 290) dL_law_275 rfl (by decide) (fun c => ?_) (fun c => ?_)
  · exact aw_goto (M := (M_law nm tb)) (tgt := 1683) dL_law_290 (by decide) (aw_le' (al' := [some (.ref 30000), some (.ref 0), some (.ref 88), some (.ref 132), some (.int i), none, none]) (aw_wid (by omega) (by omega) (KT _ (Ok.dn (Ok.ift h c) :).2)) (by exact ⟨rfl, rfl, rfl, rfl, rfl, trivial⟩))
  replace h := Ok.iff h (fun z => z c)
  refine aw_aload_n (M := (M_law nm tb)) (n := 279) (i := 3) dL_law_278 rfl rfl rfl ?_
  refine aw_iconst (M := (M_law nm tb)) (n := 280) (v := 0) dL_law_279 rfl (by decide) ?_
  refine aw_laload (M := (M_law nm tb)) (n := 281) hG.1 (sF_132 hS) (aIn_in (i := 0) (n := 1) rfl) dL_law_280 rfl ?_
  refine aw_iload (M := (M_law nm tb)) (n := 283) dL_law_281 rfl rfl ?_
  refine aw_i2l (M := (M_law nm tb)) (n := 284) dL_law_283 rfl ?_
  refine aw_lcmp (M := (M_law nm tb)) (n := 285) dL_law_284 rfl ?_
  refine aw_if_eq (M := (M_law nm tb)) (n := 288) (tgt := 290) dL_law_285 rfl (by decide) (fun c => ?_) (fun c => ?_)
  rotate_left
  · exact aZ1 (Ok.dn (Ok.iff h c) :).1
  replace h := Ok.ift h c
  refine aw_goto (M := (M_law nm tb)) (tgt := 1683) dL_law_290 (by decide) ?_
  exact aw_le' (al' := [some (.ref 30000), some (.ref 0), some (.ref 88), some (.ref 132), some (.int i), none, none]) (aw_wid (by omega) (by omega) (KT _ (Ok.dn h :).2)) (by exact ⟨rfl, rfl, rfl, rfl, rfl, trivial⟩)
theorem lw_L_90 : aLkV "NoseTownLaw" 90 11 M_X11_fault ∧ aNp M_X11_fault = some 0 := ⟨⟨aU_3 101 rfl rfl, aU_3 102 rfl rfl, aU_3 103 rfl rfl, aU_1 1 rfl rfl, aU_3 104 rfl rfl, ⟨TX11, 14, rfl⟩, ⟨by decide +kernel, by decide +kernel⟩⟩, by decide +kernel⟩
theorem lw_L_93 : aLkV "NoseTownLaw" 93 12 M_X12_fault ∧ aNp M_X12_fault = some 0 := ⟨⟨aU_7 218 rfl rfl, aU_7 219 rfl rfl, aU_7 220 rfl rfl, aU_1 14 rfl rfl, aU_7 221 rfl rfl, ⟨TX12, 66, rfl⟩, ⟨by decide +kernel, by decide +kernel⟩⟩, by decide +kernel⟩
def f_law_2 (v1 v2 v3 v4 v5 : Int32) (D : aD) : Option (Int32 × aD) :=
  aBi (f_X11_fault D) (fun x0 D => aBi (f_X12_fault D) (fun x1 D => if x0 = x1 then some (1, D) else some (0, D)))
set_option maxRecDepth 100000 in
set_option maxHeartbeats 1000000 in
theorem law_case_2 {G : aG} (hG : gOK G) (hN : va_Nc "java/lang/IllegalArgumentException" "java/util/NoSuchElementException" (gs G)) {shp : List aSh} (hS : aShp shp) {nm : String} {tb : List (Nat × Nat × Nat × Nat)} {fr : Option Nat} {kc ks : Nat} {i : Int32} {D : aD} {Q : aQ} {P : aD → Prop} (hi : ∀ c : Nat, c < 6 → vp_in (i + Int32.ofNat c) (gL G)) (hkc : kc + 4 ≤ 601024) (hks : ks + 24 ≤ 7293034) (h : Ok2 (f_law_2 (gx G (i + 1).toNatClampNeg) (gx G (i + 2).toNatClampNeg) (gx G (i + 3).toNatClampNeg) (gx G (i + 4).toNatClampNeg) (gx G (i + 5).toNatClampNeg) D) (fun r D => r = 1 ∧ P D)) (KT : ∀ D : aD, P D → AW G (aRm 1024 601024 7293034) (M_law nm tb) fr (kc + 4) (ks + 24) 1683 [some (.ref 30000), some (.ref 0), some (.ref 88), some (.ref 132), some (.int i), none, none] [] shp D Q) : AW G (aRm 1024 601024 7293034) (M_law nm tb) fr kc ks 293 [some (.ref 30000), some (.ref 0), some (.ref 88), some (.ref 132), some (.int i), none, none] [] shp D Q := by
  unfold f_law_2 at h
  replace h := Ok2.ok h
  refine aw_aload_n (M := (M_law nm tb)) (n := 294) (i := 1) dL_law_293 rfl rfl rfl ?_
  refine aw_cVi (M := (M_law nm tb)) (n := 297) (As := []) (rest := []) hG.1 lw_L_90 rfl rfl (sF_0 hS) (c_X11_fault hG hS (h := Ok.bi h)) (by decide) (Nat.le_of_ble_eq_true rfl) (by omega) (by omega) dL_law_294 rfl (fun x0 D h => ?_)
  refine aw_aload_n (M := (M_law nm tb)) (n := 298) (i := 2) dL_law_297 rfl rfl rfl ?_
  refine aw_cVi (M := (M_law nm tb)) (n := 301) (As := []) (rest := [.int x0]) hG.1 lw_L_93 rfl rfl (sF_88 hS) (c_X12_fault hG hS (h := Ok.bi h)) (by decide) (Nat.le_of_ble_eq_true rfl) (by omega) (by omega) dL_law_298 rfl (fun x1 D h => ?_)
  refine aw_icmp_eq (M := (M_law nm tb)) (n := 304) (tgt := 1683) dL_law_301 rfl (by decide) (fun c => ?_) (fun c => ?_)
  rotate_left
  · exact aZ1 (Ok.dn (Ok.iff h c) :).1
  replace h := Ok.ift h c
  exact aw_le' (al' := [some (.ref 30000), some (.ref 0), some (.ref 88), some (.ref 132), some (.int i), none, none]) (aw_wid (by omega) (by omega) (KT _ (Ok.dn h :).2)) (by exact ⟨rfl, rfl, rfl, rfl, rfl, trivial⟩)
theorem lw_L_94 : aLkX "NoseTownLaw" 94 M_L_count ∧ aNp M_L_count = some 3 := ⟨⟨aU_5 45 rfl rfl, aU_5 46 rfl rfl, aU_1 0 rfl rfl, aU_5 47 rfl rfl, ⟨by decide +kernel, by decide +kernel⟩⟩, by decide +kernel⟩
theorem lw_L_96 : aLkV "NoseTownLaw" 96 12 M_X12_count ∧ aNp M_X12_count = some 1 := ⟨⟨aU_7 222 rfl rfl, aU_7 223 rfl rfl, aU_7 224 rfl rfl, aU_1 14 rfl rfl, aU_7 225 rfl rfl, ⟨TX12, 66, rfl⟩, ⟨by decide +kernel, by decide +kernel⟩⟩, by decide +kernel⟩
def f_law_3 (v1 v2 v3 v4 v5 : Int32) (D : aD) : Option (Int32 × aD) :=
  aBi (f_L_count v1 D) (fun x0 D => aBi (f_X12_count v1 D) (fun x1 D => aBi (f_X12_thrown D) (fun x2 D => if x2 = x0 then if x0 ≠ 0 then some (1, D) else if (lg_cmp (gJ D 132 0) x1.toInt64) = 0 then some (1, D) else some (0, D) else some (0, D))))
set_option maxRecDepth 100000 in
set_option maxHeartbeats 1000000 in
theorem law_case_3 {G : aG} (hG : gOK G) (hN : va_Nc "java/lang/IllegalArgumentException" "java/util/NoSuchElementException" (gs G)) {shp : List aSh} (hS : aShp shp) {nm : String} {tb : List (Nat × Nat × Nat × Nat)} {fr : Option Nat} {kc ks : Nat} {i : Int32} {D : aD} {Q : aQ} {P : aD → Prop} (hi : ∀ c : Nat, c < 6 → vp_in (i + Int32.ofNat c) (gL G)) (hkc : kc + 4 ≤ 601024) (hks : ks + 24 ≤ 7293034) (h : Ok2 (f_law_3 (gx G (i + 1).toNatClampNeg) (gx G (i + 2).toNatClampNeg) (gx G (i + 3).toNatClampNeg) (gx G (i + 4).toNatClampNeg) (gx G (i + 5).toNatClampNeg) D) (fun r D => r = 1 ∧ P D)) (KT : ∀ D : aD, P D → AW G (aRm 1024 601024 7293034) (M_law nm tb) fr (kc + 4) (ks + 24) 1683 [some (.ref 30000), some (.ref 0), some (.ref 88), some (.ref 132), some (.int i), none, none] [] shp D Q) : AW G (aRm 1024 601024 7293034) (M_law nm tb) fr kc ks 306 [some (.ref 30000), some (.ref 0), some (.ref 88), some (.ref 132), some (.int i), none, none] [] shp D Q := by
  unfold f_law_3 at h
  replace h := Ok2.ok h
  refine aw_aload_n (M := (M_law nm tb)) (n := 307) (i := 1) dL_law_306 rfl rfl rfl ?_
  refine aw_aload_n (M := (M_law nm tb)) (n := 308) (i := 0) dL_law_307 rfl rfl rfl ?_
  refine aw_iload (M := (M_law nm tb)) (n := 310) dL_law_308 rfl rfl ?_
  refine aw_iconst (M := (M_law nm tb)) (n := 311) (v := 1) dL_law_310 rfl (by decide) ?_
  refine aw_iadd (M := (M_law nm tb)) (n := 312) dL_law_311 rfl ?_
  refine aw_sld (M := (M_law nm tb)) (n := 313) hG.2.1 hG.2.2.1 (hi 1 (by decide)) dL_law_312 rfl ?_
  refine aw_aload_n (M := (M_law nm tb)) (n := 314) (i := 3) dL_law_313 rfl rfl rfl ?_
  refine aw_cXi (M := (M_law nm tb)) (n := 317) (As := [.ref 0, .int (gx G (i + 1).toNatClampNeg), .ref 132]) (rest := []) lw_L_94 rfl rfl (c_L_count hG hN hS (h := Ok.bi h)) (by decide) (Nat.le_of_ble_eq_true rfl) (by omega) (by omega) dL_law_314 rfl (fun x0 D h => ?_)
  refine aw_istore (M := (M_law nm tb)) (n := 319) (al' := [some (.ref 30000), some (.ref 0), some (.ref 88), some (.ref 132), some (.int i), some (.int x0), none]) dL_law_317 rfl rfl (Nat.le_of_ble_eq_true rfl) rfl ?_
  refine aw_aload_n (M := (M_law nm tb)) (n := 320) (i := 2) dL_law_319 rfl rfl rfl ?_
  refine aw_aload_n (M := (M_law nm tb)) (n := 321) (i := 0) dL_law_320 rfl rfl rfl ?_
  refine aw_iload (M := (M_law nm tb)) (n := 323) dL_law_321 rfl rfl ?_
  refine aw_iconst (M := (M_law nm tb)) (n := 324) (v := 1) dL_law_323 rfl (by decide) ?_
  refine aw_iadd (M := (M_law nm tb)) (n := 325) dL_law_324 rfl ?_
  refine aw_sld (M := (M_law nm tb)) (n := 326) hG.2.1 hG.2.2.1 (hi 1 (by decide)) dL_law_325 rfl ?_
  refine aw_cVi (M := (M_law nm tb)) (n := 329) (As := [.int (gx G (i + 1).toNatClampNeg)]) (rest := []) hG.1 lw_L_96 rfl rfl (sF_88 hS) (c_X12_count hG hS (h := Ok.bi h)) (by decide) (Nat.le_of_ble_eq_true rfl) (by omega) (by omega) dL_law_326 rfl (fun x1 D h => ?_)
  refine aw_istore (M := (M_law nm tb)) (n := 331) (al' := [some (.ref 30000), some (.ref 0), some (.ref 88), some (.ref 132), some (.int i), some (.int x0), some (.int x1)]) dL_law_329 rfl rfl (Nat.le_of_ble_eq_true rfl) rfl ?_
  refine aw_aload_n (M := (M_law nm tb)) (n := 332) (i := 2) dL_law_331 rfl rfl rfl ?_
  refine aw_cVi (M := (M_law nm tb)) (n := 335) (As := []) (rest := []) hG.1 lw_L_86 rfl rfl (sF_88 hS) (c_X12_thrown hG hS (h := Ok.bi h)) (by decide) (Nat.le_of_ble_eq_true rfl) (by omega) (by omega) dL_law_332 rfl (fun x2 D h => ?_)
  refine aw_iload (M := (M_law nm tb)) (n := 337) dL_law_335 rfl rfl ?_
  refine aw_icmp_eq (M := (M_law nm tb)) (n := 340) (tgt := 342) dL_law_337 rfl (by decide) (fun c => ?_) (fun c => ?_)
  rotate_left
  · exact aZ1 (Ok.dn (Ok.iff h c) :).1
  replace h := Ok.ift h c
  refine aw_iload (M := (M_law nm tb)) (n := 344) dL_law_342 rfl rfl ?_
  refine aw_if_ne (M := (M_law nm tb)) (n := 347) (tgt := 359) dL_law_344 rfl (by decide) (fun c => ?_) (fun c => ?_)
  · exact aw_goto (M := (M_law nm tb)) (tgt := 1683) dL_law_359 (by decide) (aw_le' (al' := [some (.ref 30000), some (.ref 0), some (.ref 88), some (.ref 132), some (.int i), none, none]) (aw_wid (by omega) (by omega) (KT _ (Ok.dn (Ok.ift h c) :).2)) (by exact ⟨rfl, rfl, rfl, rfl, rfl, trivial⟩))
  replace h := Ok.iff h (fun z => z c)
  refine aw_aload_n (M := (M_law nm tb)) (n := 348) (i := 3) dL_law_347 rfl rfl rfl ?_
  refine aw_iconst (M := (M_law nm tb)) (n := 349) (v := 0) dL_law_348 rfl (by decide) ?_
  refine aw_laload (M := (M_law nm tb)) (n := 350) hG.1 (sF_132 hS) (aIn_in (i := 0) (n := 1) rfl) dL_law_349 rfl ?_
  refine aw_iload (M := (M_law nm tb)) (n := 352) dL_law_350 rfl rfl ?_
  refine aw_i2l (M := (M_law nm tb)) (n := 353) dL_law_352 rfl ?_
  refine aw_lcmp (M := (M_law nm tb)) (n := 354) dL_law_353 rfl ?_
  refine aw_if_eq (M := (M_law nm tb)) (n := 357) (tgt := 359) dL_law_354 rfl (by decide) (fun c => ?_) (fun c => ?_)
  rotate_left
  · exact aZ1 (Ok.dn (Ok.iff h c) :).1
  replace h := Ok.ift h c
  refine aw_goto (M := (M_law nm tb)) (tgt := 1683) dL_law_359 (by decide) ?_
  exact aw_le' (al' := [some (.ref 30000), some (.ref 0), some (.ref 88), some (.ref 132), some (.int i), none, none]) (aw_wid (by omega) (by omega) (KT _ (Ok.dn h :).2)) (by exact ⟨rfl, rfl, rfl, rfl, rfl, trivial⟩)
theorem lw_L_97 : aLkX "NoseTownLaw" 97 M_L_plant ∧ aNp M_L_plant = some 4 := ⟨⟨aU_5 72 rfl rfl, aU_5 73 rfl rfl, aU_1 0 rfl rfl, aU_5 74 rfl rfl, ⟨by decide +kernel, by decide +kernel⟩⟩, by decide +kernel⟩
theorem lw_L_100 : aLkV "NoseTownLaw" 100 12 M_X12_plant ∧ aNp M_X12_plant = some 2 := ⟨⟨aU_7 229 rfl rfl, aU_7 230 rfl rfl, aU_7 231 rfl rfl, aU_1 14 rfl rfl, aU_7 232 rfl rfl, ⟨TX12, 66, rfl⟩, ⟨by decide +kernel, by decide +kernel⟩⟩, by decide +kernel⟩
def f_law_4 (v1 v2 v3 v4 v5 : Int32) (D : aD) : Option (Int32 × aD) :=
  aBi (f_L_plant v1 v2 D) (fun x0 D => aBi (f_X12_plant v1 v2 D) (fun x1 D => aBi (f_X12_thrown D) (fun x2 D => if x2 = x0 then if x0 ≠ 0 then some (1, D) else if (lg_cmp (gJ D 132 0) x1.toInt64) = 0 then some (1, D) else some (0, D) else some (0, D))))
set_option maxRecDepth 100000 in
set_option maxHeartbeats 1000000 in
theorem law_case_4 {G : aG} (hG : gOK G) (hN : va_Nc "java/lang/IllegalArgumentException" "java/util/NoSuchElementException" (gs G)) {shp : List aSh} (hS : aShp shp) {nm : String} {tb : List (Nat × Nat × Nat × Nat)} {fr : Option Nat} {kc ks : Nat} {i : Int32} {D : aD} {Q : aQ} {P : aD → Prop} (hi : ∀ c : Nat, c < 6 → vp_in (i + Int32.ofNat c) (gL G)) (hkc : kc + 4 ≤ 601024) (hks : ks + 24 ≤ 7293034) (h : Ok2 (f_law_4 (gx G (i + 1).toNatClampNeg) (gx G (i + 2).toNatClampNeg) (gx G (i + 3).toNatClampNeg) (gx G (i + 4).toNatClampNeg) (gx G (i + 5).toNatClampNeg) D) (fun r D => r = 1 ∧ P D)) (KT : ∀ D : aD, P D → AW G (aRm 1024 601024 7293034) (M_law nm tb) fr (kc + 4) (ks + 24) 1683 [some (.ref 30000), some (.ref 0), some (.ref 88), some (.ref 132), some (.int i), none, none] [] shp D Q) : AW G (aRm 1024 601024 7293034) (M_law nm tb) fr kc ks 362 [some (.ref 30000), some (.ref 0), some (.ref 88), some (.ref 132), some (.int i), none, none] [] shp D Q := by
  unfold f_law_4 at h
  replace h := Ok2.ok h
  refine aw_aload_n (M := (M_law nm tb)) (n := 363) (i := 1) dL_law_362 rfl rfl rfl ?_
  refine aw_aload_n (M := (M_law nm tb)) (n := 364) (i := 0) dL_law_363 rfl rfl rfl ?_
  refine aw_iload (M := (M_law nm tb)) (n := 366) dL_law_364 rfl rfl ?_
  refine aw_iconst (M := (M_law nm tb)) (n := 367) (v := 1) dL_law_366 rfl (by decide) ?_
  refine aw_iadd (M := (M_law nm tb)) (n := 368) dL_law_367 rfl ?_
  refine aw_sld (M := (M_law nm tb)) (n := 369) hG.2.1 hG.2.2.1 (hi 1 (by decide)) dL_law_368 rfl ?_
  refine aw_aload_n (M := (M_law nm tb)) (n := 370) (i := 0) dL_law_369 rfl rfl rfl ?_
  refine aw_iload (M := (M_law nm tb)) (n := 372) dL_law_370 rfl rfl ?_
  refine aw_iconst (M := (M_law nm tb)) (n := 373) (v := 2) dL_law_372 rfl (by decide) ?_
  refine aw_iadd (M := (M_law nm tb)) (n := 374) dL_law_373 rfl ?_
  refine aw_sld (M := (M_law nm tb)) (n := 375) hG.2.1 hG.2.2.1 (hi 2 (by decide)) dL_law_374 rfl ?_
  refine aw_aload_n (M := (M_law nm tb)) (n := 376) (i := 3) dL_law_375 rfl rfl rfl ?_
  refine aw_cXi (M := (M_law nm tb)) (n := 379) (As := [.ref 0, .int (gx G (i + 1).toNatClampNeg), .int (gx G (i + 2).toNatClampNeg), .ref 132]) (rest := []) lw_L_97 rfl rfl (c_L_plant hG hN hS (h := Ok.bi h)) (by decide) (Nat.le_of_ble_eq_true rfl) (by omega) (by omega) dL_law_376 rfl (fun x0 D h => ?_)
  refine aw_istore (M := (M_law nm tb)) (n := 381) (al' := [some (.ref 30000), some (.ref 0), some (.ref 88), some (.ref 132), some (.int i), some (.int x0), none]) dL_law_379 rfl rfl (Nat.le_of_ble_eq_true rfl) rfl ?_
  refine aw_aload_n (M := (M_law nm tb)) (n := 382) (i := 2) dL_law_381 rfl rfl rfl ?_
  refine aw_aload_n (M := (M_law nm tb)) (n := 383) (i := 0) dL_law_382 rfl rfl rfl ?_
  refine aw_iload (M := (M_law nm tb)) (n := 385) dL_law_383 rfl rfl ?_
  refine aw_iconst (M := (M_law nm tb)) (n := 386) (v := 1) dL_law_385 rfl (by decide) ?_
  refine aw_iadd (M := (M_law nm tb)) (n := 387) dL_law_386 rfl ?_
  refine aw_sld (M := (M_law nm tb)) (n := 388) hG.2.1 hG.2.2.1 (hi 1 (by decide)) dL_law_387 rfl ?_
  refine aw_aload_n (M := (M_law nm tb)) (n := 389) (i := 0) dL_law_388 rfl rfl rfl ?_
  refine aw_iload (M := (M_law nm tb)) (n := 391) dL_law_389 rfl rfl ?_
  refine aw_iconst (M := (M_law nm tb)) (n := 392) (v := 2) dL_law_391 rfl (by decide) ?_
  refine aw_iadd (M := (M_law nm tb)) (n := 393) dL_law_392 rfl ?_
  refine aw_sld (M := (M_law nm tb)) (n := 394) hG.2.1 hG.2.2.1 (hi 2 (by decide)) dL_law_393 rfl ?_
  refine aw_cVi (M := (M_law nm tb)) (n := 397) (As := [.int (gx G (i + 1).toNatClampNeg), .int (gx G (i + 2).toNatClampNeg)]) (rest := []) hG.1 lw_L_100 rfl rfl (sF_88 hS) (c_X12_plant hG hS (h := Ok.bi h)) (by decide) (Nat.le_of_ble_eq_true rfl) (by omega) (by omega) dL_law_394 rfl (fun x1 D h => ?_)
  refine aw_istore (M := (M_law nm tb)) (n := 399) (al' := [some (.ref 30000), some (.ref 0), some (.ref 88), some (.ref 132), some (.int i), some (.int x0), some (.int x1)]) dL_law_397 rfl rfl (Nat.le_of_ble_eq_true rfl) rfl ?_
  refine aw_aload_n (M := (M_law nm tb)) (n := 400) (i := 2) dL_law_399 rfl rfl rfl ?_
  refine aw_cVi (M := (M_law nm tb)) (n := 403) (As := []) (rest := []) hG.1 lw_L_86 rfl rfl (sF_88 hS) (c_X12_thrown hG hS (h := Ok.bi h)) (by decide) (Nat.le_of_ble_eq_true rfl) (by omega) (by omega) dL_law_400 rfl (fun x2 D h => ?_)
  refine aw_iload (M := (M_law nm tb)) (n := 405) dL_law_403 rfl rfl ?_
  refine aw_icmp_eq (M := (M_law nm tb)) (n := 408) (tgt := 410) dL_law_405 rfl (by decide) (fun c => ?_) (fun c => ?_)
  rotate_left
  · exact aZ1 (Ok.dn (Ok.iff h c) :).1
  replace h := Ok.ift h c
  refine aw_iload (M := (M_law nm tb)) (n := 412) dL_law_410 rfl rfl ?_
  refine aw_if_ne (M := (M_law nm tb)) (n := 415) (tgt := 427) dL_law_412 rfl (by decide) (fun c => ?_) (fun c => ?_)
  · exact aw_goto (M := (M_law nm tb)) (tgt := 1683) dL_law_427 (by decide) (aw_le' (al' := [some (.ref 30000), some (.ref 0), some (.ref 88), some (.ref 132), some (.int i), none, none]) (aw_wid (by omega) (by omega) (KT _ (Ok.dn (Ok.ift h c) :).2)) (by exact ⟨rfl, rfl, rfl, rfl, rfl, trivial⟩))
  replace h := Ok.iff h (fun z => z c)
  refine aw_aload_n (M := (M_law nm tb)) (n := 416) (i := 3) dL_law_415 rfl rfl rfl ?_
  refine aw_iconst (M := (M_law nm tb)) (n := 417) (v := 0) dL_law_416 rfl (by decide) ?_
  refine aw_laload (M := (M_law nm tb)) (n := 418) hG.1 (sF_132 hS) (aIn_in (i := 0) (n := 1) rfl) dL_law_417 rfl ?_
  refine aw_iload (M := (M_law nm tb)) (n := 420) dL_law_418 rfl rfl ?_
  refine aw_i2l (M := (M_law nm tb)) (n := 421) dL_law_420 rfl ?_
  refine aw_lcmp (M := (M_law nm tb)) (n := 422) dL_law_421 rfl ?_
  refine aw_if_eq (M := (M_law nm tb)) (n := 425) (tgt := 427) dL_law_422 rfl (by decide) (fun c => ?_) (fun c => ?_)
  rotate_left
  · exact aZ1 (Ok.dn (Ok.iff h c) :).1
  replace h := Ok.ift h c
  refine aw_goto (M := (M_law nm tb)) (tgt := 1683) dL_law_427 (by decide) ?_
  exact aw_le' (al' := [some (.ref 30000), some (.ref 0), some (.ref 88), some (.ref 132), some (.int i), none, none]) (aw_wid (by omega) (by omega) (KT _ (Ok.dn h :).2)) (by exact ⟨rfl, rfl, rfl, rfl, rfl, trivial⟩)
theorem lw_L_101 : aLkX "NoseTownLaw" 101 M_L_turn ∧ aNp M_L_turn = some 4 := ⟨⟨aU_5 79 rfl rfl, aU_5 80 rfl rfl, aU_1 0 rfl rfl, aU_5 81 rfl rfl, ⟨by decide +kernel, by decide +kernel⟩⟩, by decide +kernel⟩
theorem lw_L_103 : aLkV "NoseTownLaw" 103 12 M_X12_turn ∧ aNp M_X12_turn = some 2 := ⟨⟨aU_7 237 rfl rfl, aU_7 238 rfl rfl, aU_7 239 rfl rfl, aU_1 14 rfl rfl, aU_8 0 rfl rfl, ⟨TX12, 66, rfl⟩, ⟨by decide +kernel, by decide +kernel⟩⟩, by decide +kernel⟩
def f_law_5 (v1 v2 v3 v4 v5 : Int32) (D : aD) : Option (Int32 × aD) :=
  aBi (f_L_turn v1 v2 D) (fun x0 D => aBi (f_X12_turn v1 v2 D) (fun x1 D => aBi (f_X12_thrown D) (fun x2 D => if x2 = x0 then if x0 ≠ 0 then some (1, D) else if (lg_cmp (gJ D 132 0) x1.toInt64) = 0 then some (1, D) else some (0, D) else some (0, D))))
set_option maxRecDepth 100000 in
set_option maxHeartbeats 1000000 in
theorem law_case_5 {G : aG} (hG : gOK G) (hN : va_Nc "java/lang/IllegalArgumentException" "java/util/NoSuchElementException" (gs G)) {shp : List aSh} (hS : aShp shp) {nm : String} {tb : List (Nat × Nat × Nat × Nat)} {fr : Option Nat} {kc ks : Nat} {i : Int32} {D : aD} {Q : aQ} {P : aD → Prop} (hi : ∀ c : Nat, c < 6 → vp_in (i + Int32.ofNat c) (gL G)) (hkc : kc + 4 ≤ 601024) (hks : ks + 24 ≤ 7293034) (h : Ok2 (f_law_5 (gx G (i + 1).toNatClampNeg) (gx G (i + 2).toNatClampNeg) (gx G (i + 3).toNatClampNeg) (gx G (i + 4).toNatClampNeg) (gx G (i + 5).toNatClampNeg) D) (fun r D => r = 1 ∧ P D)) (KT : ∀ D : aD, P D → AW G (aRm 1024 601024 7293034) (M_law nm tb) fr (kc + 4) (ks + 24) 1683 [some (.ref 30000), some (.ref 0), some (.ref 88), some (.ref 132), some (.int i), none, none] [] shp D Q) : AW G (aRm 1024 601024 7293034) (M_law nm tb) fr kc ks 430 [some (.ref 30000), some (.ref 0), some (.ref 88), some (.ref 132), some (.int i), none, none] [] shp D Q := by
  unfold f_law_5 at h
  replace h := Ok2.ok h
  refine aw_aload_n (M := (M_law nm tb)) (n := 431) (i := 1) dL_law_430 rfl rfl rfl ?_
  refine aw_aload_n (M := (M_law nm tb)) (n := 432) (i := 0) dL_law_431 rfl rfl rfl ?_
  refine aw_iload (M := (M_law nm tb)) (n := 434) dL_law_432 rfl rfl ?_
  refine aw_iconst (M := (M_law nm tb)) (n := 435) (v := 1) dL_law_434 rfl (by decide) ?_
  refine aw_iadd (M := (M_law nm tb)) (n := 436) dL_law_435 rfl ?_
  refine aw_sld (M := (M_law nm tb)) (n := 437) hG.2.1 hG.2.2.1 (hi 1 (by decide)) dL_law_436 rfl ?_
  refine aw_aload_n (M := (M_law nm tb)) (n := 438) (i := 0) dL_law_437 rfl rfl rfl ?_
  refine aw_iload (M := (M_law nm tb)) (n := 440) dL_law_438 rfl rfl ?_
  refine aw_iconst (M := (M_law nm tb)) (n := 441) (v := 2) dL_law_440 rfl (by decide) ?_
  refine aw_iadd (M := (M_law nm tb)) (n := 442) dL_law_441 rfl ?_
  refine aw_sld (M := (M_law nm tb)) (n := 443) hG.2.1 hG.2.2.1 (hi 2 (by decide)) dL_law_442 rfl ?_
  refine aw_aload_n (M := (M_law nm tb)) (n := 444) (i := 3) dL_law_443 rfl rfl rfl ?_
  refine aw_cXi (M := (M_law nm tb)) (n := 447) (As := [.ref 0, .int (gx G (i + 1).toNatClampNeg), .int (gx G (i + 2).toNatClampNeg), .ref 132]) (rest := []) lw_L_101 rfl rfl (c_L_turn hG hN hS (h := Ok.bi h)) (by decide) (Nat.le_of_ble_eq_true rfl) (by omega) (by omega) dL_law_444 rfl (fun x0 D h => ?_)
  refine aw_istore (M := (M_law nm tb)) (n := 449) (al' := [some (.ref 30000), some (.ref 0), some (.ref 88), some (.ref 132), some (.int i), some (.int x0), none]) dL_law_447 rfl rfl (Nat.le_of_ble_eq_true rfl) rfl ?_
  refine aw_aload_n (M := (M_law nm tb)) (n := 450) (i := 2) dL_law_449 rfl rfl rfl ?_
  refine aw_aload_n (M := (M_law nm tb)) (n := 451) (i := 0) dL_law_450 rfl rfl rfl ?_
  refine aw_iload (M := (M_law nm tb)) (n := 453) dL_law_451 rfl rfl ?_
  refine aw_iconst (M := (M_law nm tb)) (n := 454) (v := 1) dL_law_453 rfl (by decide) ?_
  refine aw_iadd (M := (M_law nm tb)) (n := 455) dL_law_454 rfl ?_
  refine aw_sld (M := (M_law nm tb)) (n := 456) hG.2.1 hG.2.2.1 (hi 1 (by decide)) dL_law_455 rfl ?_
  refine aw_aload_n (M := (M_law nm tb)) (n := 457) (i := 0) dL_law_456 rfl rfl rfl ?_
  refine aw_iload (M := (M_law nm tb)) (n := 459) dL_law_457 rfl rfl ?_
  refine aw_iconst (M := (M_law nm tb)) (n := 460) (v := 2) dL_law_459 rfl (by decide) ?_
  refine aw_iadd (M := (M_law nm tb)) (n := 461) dL_law_460 rfl ?_
  refine aw_sld (M := (M_law nm tb)) (n := 462) hG.2.1 hG.2.2.1 (hi 2 (by decide)) dL_law_461 rfl ?_
  refine aw_cVi (M := (M_law nm tb)) (n := 465) (As := [.int (gx G (i + 1).toNatClampNeg), .int (gx G (i + 2).toNatClampNeg)]) (rest := []) hG.1 lw_L_103 rfl rfl (sF_88 hS) (c_X12_turn hG hS (h := Ok.bi h)) (by decide) (Nat.le_of_ble_eq_true rfl) (by omega) (by omega) dL_law_462 rfl (fun x1 D h => ?_)
  refine aw_istore (M := (M_law nm tb)) (n := 467) (al' := [some (.ref 30000), some (.ref 0), some (.ref 88), some (.ref 132), some (.int i), some (.int x0), some (.int x1)]) dL_law_465 rfl rfl (Nat.le_of_ble_eq_true rfl) rfl ?_
  refine aw_aload_n (M := (M_law nm tb)) (n := 468) (i := 2) dL_law_467 rfl rfl rfl ?_
  refine aw_cVi (M := (M_law nm tb)) (n := 471) (As := []) (rest := []) hG.1 lw_L_86 rfl rfl (sF_88 hS) (c_X12_thrown hG hS (h := Ok.bi h)) (by decide) (Nat.le_of_ble_eq_true rfl) (by omega) (by omega) dL_law_468 rfl (fun x2 D h => ?_)
  refine aw_iload (M := (M_law nm tb)) (n := 473) dL_law_471 rfl rfl ?_
  refine aw_icmp_eq (M := (M_law nm tb)) (n := 476) (tgt := 478) dL_law_473 rfl (by decide) (fun c => ?_) (fun c => ?_)
  rotate_left
  · exact aZ1 (Ok.dn (Ok.iff h c) :).1
  replace h := Ok.ift h c
  refine aw_iload (M := (M_law nm tb)) (n := 480) dL_law_478 rfl rfl ?_
  refine aw_if_ne (M := (M_law nm tb)) (n := 483) (tgt := 495) dL_law_480 rfl (by decide) (fun c => ?_) (fun c => ?_)
  · exact aw_goto (M := (M_law nm tb)) (tgt := 1683) dL_law_495 (by decide) (aw_le' (al' := [some (.ref 30000), some (.ref 0), some (.ref 88), some (.ref 132), some (.int i), none, none]) (aw_wid (by omega) (by omega) (KT _ (Ok.dn (Ok.ift h c) :).2)) (by exact ⟨rfl, rfl, rfl, rfl, rfl, trivial⟩))
  replace h := Ok.iff h (fun z => z c)
  refine aw_aload_n (M := (M_law nm tb)) (n := 484) (i := 3) dL_law_483 rfl rfl rfl ?_
  refine aw_iconst (M := (M_law nm tb)) (n := 485) (v := 0) dL_law_484 rfl (by decide) ?_
  refine aw_laload (M := (M_law nm tb)) (n := 486) hG.1 (sF_132 hS) (aIn_in (i := 0) (n := 1) rfl) dL_law_485 rfl ?_
  refine aw_iload (M := (M_law nm tb)) (n := 488) dL_law_486 rfl rfl ?_
  refine aw_i2l (M := (M_law nm tb)) (n := 489) dL_law_488 rfl ?_
  refine aw_lcmp (M := (M_law nm tb)) (n := 490) dL_law_489 rfl ?_
  refine aw_if_eq (M := (M_law nm tb)) (n := 493) (tgt := 495) dL_law_490 rfl (by decide) (fun c => ?_) (fun c => ?_)
  rotate_left
  · exact aZ1 (Ok.dn (Ok.iff h c) :).1
  replace h := Ok.ift h c
  refine aw_goto (M := (M_law nm tb)) (tgt := 1683) dL_law_495 (by decide) ?_
  exact aw_le' (al' := [some (.ref 30000), some (.ref 0), some (.ref 88), some (.ref 132), some (.int i), none, none]) (aw_wid (by omega) (by omega) (KT _ (Ok.dn h :).2)) (by exact ⟨rfl, rfl, rfl, rfl, rfl, trivial⟩)
theorem lw_L_104 : aLkV "NoseTownLaw" 104 11 M_X11_week ∧ aNp M_X11_week = some 1 := ⟨⟨aU_3 105 rfl rfl, aU_3 106 rfl rfl, aU_3 107 rfl rfl, aU_1 1 rfl rfl, aU_3 108 rfl rfl, ⟨TX11, 14, rfl⟩, ⟨by decide +kernel, by decide +kernel⟩⟩, by decide +kernel⟩
theorem lw_L_108 : aLkV "NoseTownLaw" 108 12 M_X12_week ∧ aNp M_X12_week = some 1 := ⟨⟨aU_8 1 rfl rfl, aU_8 2 rfl rfl, aU_8 3 rfl rfl, aU_1 14 rfl rfl, aU_8 4 rfl rfl, ⟨TX12, 66, rfl⟩, ⟨by decide +kernel, by decide +kernel⟩⟩, by decide +kernel⟩
def f_law_6 (v1 v2 v3 v4 v5 : Int32) (D : aD) : Option (Int32 × aD) :=
  aBi (f_X11_week v1 D) (fun x0 D => aBi (f_X12_week v1 D) (fun x1 D => if x0 = x1 then some (1, D) else some (0, D)))
set_option maxRecDepth 100000 in
set_option maxHeartbeats 1000000 in
theorem law_case_6 {G : aG} (hG : gOK G) (hN : va_Nc "java/lang/IllegalArgumentException" "java/util/NoSuchElementException" (gs G)) {shp : List aSh} (hS : aShp shp) {nm : String} {tb : List (Nat × Nat × Nat × Nat)} {fr : Option Nat} {kc ks : Nat} {i : Int32} {D : aD} {Q : aQ} {P : aD → Prop} (hi : ∀ c : Nat, c < 6 → vp_in (i + Int32.ofNat c) (gL G)) (hkc : kc + 4 ≤ 601024) (hks : ks + 24 ≤ 7293034) (h : Ok2 (f_law_6 (gx G (i + 1).toNatClampNeg) (gx G (i + 2).toNatClampNeg) (gx G (i + 3).toNatClampNeg) (gx G (i + 4).toNatClampNeg) (gx G (i + 5).toNatClampNeg) D) (fun r D => r = 1 ∧ P D)) (KT : ∀ D : aD, P D → AW G (aRm 1024 601024 7293034) (M_law nm tb) fr (kc + 4) (ks + 24) 1683 [some (.ref 30000), some (.ref 0), some (.ref 88), some (.ref 132), some (.int i), none, none] [] shp D Q) : AW G (aRm 1024 601024 7293034) (M_law nm tb) fr kc ks 498 [some (.ref 30000), some (.ref 0), some (.ref 88), some (.ref 132), some (.int i), none, none] [] shp D Q := by
  unfold f_law_6 at h
  replace h := Ok2.ok h
  refine aw_aload_n (M := (M_law nm tb)) (n := 499) (i := 1) dL_law_498 rfl rfl rfl ?_
  refine aw_aload_n (M := (M_law nm tb)) (n := 500) (i := 0) dL_law_499 rfl rfl rfl ?_
  refine aw_iload (M := (M_law nm tb)) (n := 502) dL_law_500 rfl rfl ?_
  refine aw_iconst (M := (M_law nm tb)) (n := 503) (v := 1) dL_law_502 rfl (by decide) ?_
  refine aw_iadd (M := (M_law nm tb)) (n := 504) dL_law_503 rfl ?_
  refine aw_sld (M := (M_law nm tb)) (n := 505) hG.2.1 hG.2.2.1 (hi 1 (by decide)) dL_law_504 rfl ?_
  refine aw_cVi (M := (M_law nm tb)) (n := 508) (As := [.int (gx G (i + 1).toNatClampNeg)]) (rest := []) hG.1 lw_L_104 rfl rfl (sF_0 hS) (c_X11_week hG hS (h := Ok.bi h)) (by decide) (Nat.le_of_ble_eq_true rfl) (by omega) (by omega) dL_law_505 rfl (fun x0 D h => ?_)
  refine aw_aload_n (M := (M_law nm tb)) (n := 509) (i := 2) dL_law_508 rfl rfl rfl ?_
  refine aw_aload_n (M := (M_law nm tb)) (n := 510) (i := 0) dL_law_509 rfl rfl rfl ?_
  refine aw_iload (M := (M_law nm tb)) (n := 512) dL_law_510 rfl rfl ?_
  refine aw_iconst (M := (M_law nm tb)) (n := 513) (v := 1) dL_law_512 rfl (by decide) ?_
  refine aw_iadd (M := (M_law nm tb)) (n := 514) dL_law_513 rfl ?_
  refine aw_sld (M := (M_law nm tb)) (n := 515) hG.2.1 hG.2.2.1 (hi 1 (by decide)) dL_law_514 rfl ?_
  refine aw_cVi (M := (M_law nm tb)) (n := 518) (As := [.int (gx G (i + 1).toNatClampNeg)]) (rest := [.int x0]) hG.1 lw_L_108 rfl rfl (sF_88 hS) (c_X12_week hG hS (h := Ok.bi h)) (by decide) (Nat.le_of_ble_eq_true rfl) (by omega) (by omega) dL_law_515 rfl (fun x1 D h => ?_)
  refine aw_icmp_eq (M := (M_law nm tb)) (n := 521) (tgt := 1683) dL_law_518 rfl (by decide) (fun c => ?_) (fun c => ?_)
  rotate_left
  · exact aZ1 (Ok.dn (Ok.iff h c) :).1
  replace h := Ok.ift h c
  exact aw_le' (al' := [some (.ref 30000), some (.ref 0), some (.ref 88), some (.ref 132), some (.int i), none, none]) (aw_wid (by omega) (by omega) (KT _ (Ok.dn h :).2)) (by exact ⟨rfl, rfl, rfl, rfl, rfl, trivial⟩)
theorem lw_L_109 : aLkV "NoseTownLaw" 109 11 M_X11_walk ∧ aNp M_X11_walk = some 2 := ⟨⟨aU_3 112 rfl rfl, aU_3 113 rfl rfl, aU_3 114 rfl rfl, aU_1 1 rfl rfl, aU_3 115 rfl rfl, ⟨TX11, 14, rfl⟩, ⟨by decide +kernel, by decide +kernel⟩⟩, by decide +kernel⟩
theorem lw_L_113 : aLkV "NoseTownLaw" 113 12 M_X12_walk ∧ aNp M_X12_walk = some 2 := ⟨⟨aU_8 5 rfl rfl, aU_8 6 rfl rfl, aU_8 7 rfl rfl, aU_1 14 rfl rfl, aU_8 8 rfl rfl, ⟨TX12, 66, rfl⟩, ⟨by decide +kernel, by decide +kernel⟩⟩, by decide +kernel⟩
def f_law_7 (v1 v2 v3 v4 v5 : Int32) (D : aD) : Option (Int32 × aD) :=
  aBi (f_X11_walk v1 v2 D) (fun x0 D => aBi (f_X12_walk v1 v2 D) (fun x1 D => if x0 = x1 then some (1, D) else some (0, D)))
set_option maxRecDepth 100000 in
set_option maxHeartbeats 1000000 in
theorem law_case_7 {G : aG} (hG : gOK G) (hN : va_Nc "java/lang/IllegalArgumentException" "java/util/NoSuchElementException" (gs G)) {shp : List aSh} (hS : aShp shp) {nm : String} {tb : List (Nat × Nat × Nat × Nat)} {fr : Option Nat} {kc ks : Nat} {i : Int32} {D : aD} {Q : aQ} {P : aD → Prop} (hi : ∀ c : Nat, c < 6 → vp_in (i + Int32.ofNat c) (gL G)) (hkc : kc + 4 ≤ 601024) (hks : ks + 24 ≤ 7293034) (h : Ok2 (f_law_7 (gx G (i + 1).toNatClampNeg) (gx G (i + 2).toNatClampNeg) (gx G (i + 3).toNatClampNeg) (gx G (i + 4).toNatClampNeg) (gx G (i + 5).toNatClampNeg) D) (fun r D => r = 1 ∧ P D)) (KT : ∀ D : aD, P D → AW G (aRm 1024 601024 7293034) (M_law nm tb) fr (kc + 4) (ks + 24) 1683 [some (.ref 30000), some (.ref 0), some (.ref 88), some (.ref 132), some (.int i), none, none] [] shp D Q) : AW G (aRm 1024 601024 7293034) (M_law nm tb) fr kc ks 523 [some (.ref 30000), some (.ref 0), some (.ref 88), some (.ref 132), some (.int i), none, none] [] shp D Q := by
  unfold f_law_7 at h
  replace h := Ok2.ok h
  refine aw_aload_n (M := (M_law nm tb)) (n := 524) (i := 1) dL_law_523 rfl rfl rfl ?_
  refine aw_aload_n (M := (M_law nm tb)) (n := 525) (i := 0) dL_law_524 rfl rfl rfl ?_
  refine aw_iload (M := (M_law nm tb)) (n := 527) dL_law_525 rfl rfl ?_
  refine aw_iconst (M := (M_law nm tb)) (n := 528) (v := 1) dL_law_527 rfl (by decide) ?_
  refine aw_iadd (M := (M_law nm tb)) (n := 529) dL_law_528 rfl ?_
  refine aw_sld (M := (M_law nm tb)) (n := 530) hG.2.1 hG.2.2.1 (hi 1 (by decide)) dL_law_529 rfl ?_
  refine aw_aload_n (M := (M_law nm tb)) (n := 531) (i := 0) dL_law_530 rfl rfl rfl ?_
  refine aw_iload (M := (M_law nm tb)) (n := 533) dL_law_531 rfl rfl ?_
  refine aw_iconst (M := (M_law nm tb)) (n := 534) (v := 2) dL_law_533 rfl (by decide) ?_
  refine aw_iadd (M := (M_law nm tb)) (n := 535) dL_law_534 rfl ?_
  refine aw_sld (M := (M_law nm tb)) (n := 536) hG.2.1 hG.2.2.1 (hi 2 (by decide)) dL_law_535 rfl ?_
  refine aw_cVi (M := (M_law nm tb)) (n := 539) (As := [.int (gx G (i + 1).toNatClampNeg), .int (gx G (i + 2).toNatClampNeg)]) (rest := []) hG.1 lw_L_109 rfl rfl (sF_0 hS) (c_X11_walk hG hS (h := Ok.bi h)) (by decide) (Nat.le_of_ble_eq_true rfl) (by omega) (by omega) dL_law_536 rfl (fun x0 D h => ?_)
  refine aw_aload_n (M := (M_law nm tb)) (n := 540) (i := 2) dL_law_539 rfl rfl rfl ?_
  refine aw_aload_n (M := (M_law nm tb)) (n := 541) (i := 0) dL_law_540 rfl rfl rfl ?_
  refine aw_iload (M := (M_law nm tb)) (n := 543) dL_law_541 rfl rfl ?_
  refine aw_iconst (M := (M_law nm tb)) (n := 544) (v := 1) dL_law_543 rfl (by decide) ?_
  refine aw_iadd (M := (M_law nm tb)) (n := 545) dL_law_544 rfl ?_
  refine aw_sld (M := (M_law nm tb)) (n := 546) hG.2.1 hG.2.2.1 (hi 1 (by decide)) dL_law_545 rfl ?_
  refine aw_aload_n (M := (M_law nm tb)) (n := 547) (i := 0) dL_law_546 rfl rfl rfl ?_
  refine aw_iload (M := (M_law nm tb)) (n := 549) dL_law_547 rfl rfl ?_
  refine aw_iconst (M := (M_law nm tb)) (n := 550) (v := 2) dL_law_549 rfl (by decide) ?_
  refine aw_iadd (M := (M_law nm tb)) (n := 551) dL_law_550 rfl ?_
  refine aw_sld (M := (M_law nm tb)) (n := 552) hG.2.1 hG.2.2.1 (hi 2 (by decide)) dL_law_551 rfl ?_
  refine aw_cVi (M := (M_law nm tb)) (n := 555) (As := [.int (gx G (i + 1).toNatClampNeg), .int (gx G (i + 2).toNatClampNeg)]) (rest := [.int x0]) hG.1 lw_L_113 rfl rfl (sF_88 hS) (c_X12_walk hG hS (h := Ok.bi h)) (by decide) (Nat.le_of_ble_eq_true rfl) (by omega) (by omega) dL_law_552 rfl (fun x1 D h => ?_)
  refine aw_icmp_eq (M := (M_law nm tb)) (n := 558) (tgt := 1683) dL_law_555 rfl (by decide) (fun c => ?_) (fun c => ?_)
  rotate_left
  · exact aZ1 (Ok.dn (Ok.iff h c) :).1
  replace h := Ok.ift h c
  exact aw_le' (al' := [some (.ref 30000), some (.ref 0), some (.ref 88), some (.ref 132), some (.int i), none, none]) (aw_wid (by omega) (by omega) (KT _ (Ok.dn h :).2)) (by exact ⟨rfl, rfl, rfl, rfl, rfl, trivial⟩)
theorem lw_L_114 : aLkV "NoseTownLaw" 114 11 M_X11_order ∧ aNp M_X11_order = some 0 := ⟨⟨aU_3 120 rfl rfl, aU_3 121 rfl rfl, aU_3 122 rfl rfl, aU_1 1 rfl rfl, aU_3 123 rfl rfl, ⟨TX11, 14, rfl⟩, ⟨by decide +kernel, by decide +kernel⟩⟩, by decide +kernel⟩
theorem lw_L_117 : aLkV "NoseTownLaw" 117 12 M_X12_order ∧ aNp M_X12_order = some 0 := ⟨⟨aU_8 9 rfl rfl, aU_8 10 rfl rfl, aU_8 11 rfl rfl, aU_1 14 rfl rfl, aU_8 12 rfl rfl, ⟨TX12, 66, rfl⟩, ⟨by decide +kernel, by decide +kernel⟩⟩, by decide +kernel⟩
def f_law_8 (v1 v2 v3 v4 v5 : Int32) (D : aD) : Option (Int32 × aD) :=
  aBi (f_X11_order D) (fun x0 D => aBi (f_X12_order D) (fun x1 D => if x0 = x1 then some (1, D) else some (0, D)))
set_option maxRecDepth 100000 in
set_option maxHeartbeats 1000000 in
theorem law_case_8 {G : aG} (hG : gOK G) (hN : va_Nc "java/lang/IllegalArgumentException" "java/util/NoSuchElementException" (gs G)) {shp : List aSh} (hS : aShp shp) {nm : String} {tb : List (Nat × Nat × Nat × Nat)} {fr : Option Nat} {kc ks : Nat} {i : Int32} {D : aD} {Q : aQ} {P : aD → Prop} (hi : ∀ c : Nat, c < 6 → vp_in (i + Int32.ofNat c) (gL G)) (hkc : kc + 4 ≤ 601024) (hks : ks + 24 ≤ 7293034) (h : Ok2 (f_law_8 (gx G (i + 1).toNatClampNeg) (gx G (i + 2).toNatClampNeg) (gx G (i + 3).toNatClampNeg) (gx G (i + 4).toNatClampNeg) (gx G (i + 5).toNatClampNeg) D) (fun r D => r = 1 ∧ P D)) (KT : ∀ D : aD, P D → AW G (aRm 1024 601024 7293034) (M_law nm tb) fr (kc + 4) (ks + 24) 1683 [some (.ref 30000), some (.ref 0), some (.ref 88), some (.ref 132), some (.int i), none, none] [] shp D Q) : AW G (aRm 1024 601024 7293034) (M_law nm tb) fr kc ks 560 [some (.ref 30000), some (.ref 0), some (.ref 88), some (.ref 132), some (.int i), none, none] [] shp D Q := by
  unfold f_law_8 at h
  replace h := Ok2.ok h
  refine aw_aload_n (M := (M_law nm tb)) (n := 561) (i := 1) dL_law_560 rfl rfl rfl ?_
  refine aw_cVi (M := (M_law nm tb)) (n := 564) (As := []) (rest := []) hG.1 lw_L_114 rfl rfl (sF_0 hS) (c_X11_order hG hS (h := Ok.bi h)) (by decide) (Nat.le_of_ble_eq_true rfl) (by omega) (by omega) dL_law_561 rfl (fun x0 D h => ?_)
  refine aw_aload_n (M := (M_law nm tb)) (n := 565) (i := 2) dL_law_564 rfl rfl rfl ?_
  refine aw_cVi (M := (M_law nm tb)) (n := 568) (As := []) (rest := [.int x0]) hG.1 lw_L_117 rfl rfl (sF_88 hS) (c_X12_order hG hS (h := Ok.bi h)) (by decide) (Nat.le_of_ble_eq_true rfl) (by omega) (by omega) dL_law_565 rfl (fun x1 D h => ?_)
  refine aw_icmp_eq (M := (M_law nm tb)) (n := 571) (tgt := 1683) dL_law_568 rfl (by decide) (fun c => ?_) (fun c => ?_)
  rotate_left
  · exact aZ1 (Ok.dn (Ok.iff h c) :).1
  replace h := Ok.ift h c
  exact aw_le' (al' := [some (.ref 30000), some (.ref 0), some (.ref 88), some (.ref 132), some (.int i), none, none]) (aw_wid (by omega) (by omega) (KT _ (Ok.dn h :).2)) (by exact ⟨rfl, rfl, rfl, rfl, rfl, trivial⟩)
theorem lw_L_118 : aLkX "NoseTownLaw" 118 M_L_smell ∧ aNp M_L_smell = some 6 := ⟨⟨aU_5 87 rfl rfl, aU_5 88 rfl rfl, aU_1 0 rfl rfl, aU_5 89 rfl rfl, ⟨by decide +kernel, by decide +kernel⟩⟩, by decide +kernel⟩
theorem lw_L_121 : aLkV "NoseTownLaw" 121 12 M_X12_smell ∧ aNp M_X12_smell = some 4 := ⟨⟨aU_8 17 rfl rfl, aU_8 18 rfl rfl, aU_8 19 rfl rfl, aU_1 14 rfl rfl, aU_8 20 rfl rfl, ⟨TX12, 66, rfl⟩, ⟨by decide +kernel, by decide +kernel⟩⟩, by decide +kernel⟩
def f_law_9 (v1 v2 v3 v4 v5 : Int32) (D : aD) : Option (Int32 × aD) :=
  aBi (f_L_smell v1 v2 v3 v4 D) (fun x0 D => aBi (f_X12_smell v1 v2 v3 v4 D) (fun x1 D => aBi (f_X12_thrown D) (fun x2 D => if x2 = x0 then if x0 ≠ 0 then some (1, D) else if (lg_cmp (gJ D 132 0) x1.toInt64) = 0 then some (1, D) else some (0, D) else some (0, D))))
set_option maxRecDepth 100000 in
set_option maxHeartbeats 1000000 in
theorem law_case_9 {G : aG} (hG : gOK G) (hN : va_Nc "java/lang/IllegalArgumentException" "java/util/NoSuchElementException" (gs G)) {shp : List aSh} (hS : aShp shp) {nm : String} {tb : List (Nat × Nat × Nat × Nat)} {fr : Option Nat} {kc ks : Nat} {i : Int32} {D : aD} {Q : aQ} {P : aD → Prop} (hi : ∀ c : Nat, c < 6 → vp_in (i + Int32.ofNat c) (gL G)) (hkc : kc + 4 ≤ 601024) (hks : ks + 24 ≤ 7293034) (h : Ok2 (f_law_9 (gx G (i + 1).toNatClampNeg) (gx G (i + 2).toNatClampNeg) (gx G (i + 3).toNatClampNeg) (gx G (i + 4).toNatClampNeg) (gx G (i + 5).toNatClampNeg) D) (fun r D => r = 1 ∧ P D)) (KT : ∀ D : aD, P D → AW G (aRm 1024 601024 7293034) (M_law nm tb) fr (kc + 4) (ks + 24) 1683 [some (.ref 30000), some (.ref 0), some (.ref 88), some (.ref 132), some (.int i), none, none] [] shp D Q) : AW G (aRm 1024 601024 7293034) (M_law nm tb) fr kc ks 573 [some (.ref 30000), some (.ref 0), some (.ref 88), some (.ref 132), some (.int i), none, none] [] shp D Q := by
  unfold f_law_9 at h
  replace h := Ok2.ok h
  refine aw_aload_n (M := (M_law nm tb)) (n := 574) (i := 1) dL_law_573 rfl rfl rfl ?_
  refine aw_aload_n (M := (M_law nm tb)) (n := 575) (i := 0) dL_law_574 rfl rfl rfl ?_
  refine aw_iload (M := (M_law nm tb)) (n := 577) dL_law_575 rfl rfl ?_
  refine aw_iconst (M := (M_law nm tb)) (n := 578) (v := 1) dL_law_577 rfl (by decide) ?_
  refine aw_iadd (M := (M_law nm tb)) (n := 579) dL_law_578 rfl ?_
  refine aw_sld (M := (M_law nm tb)) (n := 580) hG.2.1 hG.2.2.1 (hi 1 (by decide)) dL_law_579 rfl ?_
  refine aw_aload_n (M := (M_law nm tb)) (n := 581) (i := 0) dL_law_580 rfl rfl rfl ?_
  refine aw_iload (M := (M_law nm tb)) (n := 583) dL_law_581 rfl rfl ?_
  refine aw_iconst (M := (M_law nm tb)) (n := 584) (v := 2) dL_law_583 rfl (by decide) ?_
  refine aw_iadd (M := (M_law nm tb)) (n := 585) dL_law_584 rfl ?_
  refine aw_sld (M := (M_law nm tb)) (n := 586) hG.2.1 hG.2.2.1 (hi 2 (by decide)) dL_law_585 rfl ?_
  refine aw_aload_n (M := (M_law nm tb)) (n := 587) (i := 0) dL_law_586 rfl rfl rfl ?_
  refine aw_iload (M := (M_law nm tb)) (n := 589) dL_law_587 rfl rfl ?_
  refine aw_iconst (M := (M_law nm tb)) (n := 590) (v := 3) dL_law_589 rfl (by decide) ?_
  refine aw_iadd (M := (M_law nm tb)) (n := 591) dL_law_590 rfl ?_
  refine aw_sld (M := (M_law nm tb)) (n := 592) hG.2.1 hG.2.2.1 (hi 3 (by decide)) dL_law_591 rfl ?_
  refine aw_aload_n (M := (M_law nm tb)) (n := 593) (i := 0) dL_law_592 rfl rfl rfl ?_
  refine aw_iload (M := (M_law nm tb)) (n := 595) dL_law_593 rfl rfl ?_
  refine aw_iconst (M := (M_law nm tb)) (n := 596) (v := 4) dL_law_595 rfl (by decide) ?_
  refine aw_iadd (M := (M_law nm tb)) (n := 597) dL_law_596 rfl ?_
  refine aw_sld (M := (M_law nm tb)) (n := 598) hG.2.1 hG.2.2.1 (hi 4 (by decide)) dL_law_597 rfl ?_
  refine aw_aload_n (M := (M_law nm tb)) (n := 599) (i := 3) dL_law_598 rfl rfl rfl ?_
  refine aw_cXi (M := (M_law nm tb)) (n := 602) (As := [.ref 0, .int (gx G (i + 1).toNatClampNeg), .int (gx G (i + 2).toNatClampNeg), .int (gx G (i + 3).toNatClampNeg), .int (gx G (i + 4).toNatClampNeg), .ref 132]) (rest := []) lw_L_118 rfl rfl (c_L_smell hG hN hS (h := Ok.bi h)) (by decide) (Nat.le_of_ble_eq_true rfl) (by omega) (by omega) dL_law_599 rfl (fun x0 D h => ?_)
  refine aw_istore (M := (M_law nm tb)) (n := 604) (al' := [some (.ref 30000), some (.ref 0), some (.ref 88), some (.ref 132), some (.int i), some (.int x0), none]) dL_law_602 rfl rfl (Nat.le_of_ble_eq_true rfl) rfl ?_
  refine aw_aload_n (M := (M_law nm tb)) (n := 605) (i := 2) dL_law_604 rfl rfl rfl ?_
  refine aw_aload_n (M := (M_law nm tb)) (n := 606) (i := 0) dL_law_605 rfl rfl rfl ?_
  refine aw_iload (M := (M_law nm tb)) (n := 608) dL_law_606 rfl rfl ?_
  refine aw_iconst (M := (M_law nm tb)) (n := 609) (v := 1) dL_law_608 rfl (by decide) ?_
  refine aw_iadd (M := (M_law nm tb)) (n := 610) dL_law_609 rfl ?_
  refine aw_sld (M := (M_law nm tb)) (n := 611) hG.2.1 hG.2.2.1 (hi 1 (by decide)) dL_law_610 rfl ?_
  refine aw_aload_n (M := (M_law nm tb)) (n := 612) (i := 0) dL_law_611 rfl rfl rfl ?_
  refine aw_iload (M := (M_law nm tb)) (n := 614) dL_law_612 rfl rfl ?_
  refine aw_iconst (M := (M_law nm tb)) (n := 615) (v := 2) dL_law_614 rfl (by decide) ?_
  refine aw_iadd (M := (M_law nm tb)) (n := 616) dL_law_615 rfl ?_
  refine aw_sld (M := (M_law nm tb)) (n := 617) hG.2.1 hG.2.2.1 (hi 2 (by decide)) dL_law_616 rfl ?_
  refine aw_aload_n (M := (M_law nm tb)) (n := 618) (i := 0) dL_law_617 rfl rfl rfl ?_
  refine aw_iload (M := (M_law nm tb)) (n := 620) dL_law_618 rfl rfl ?_
  refine aw_iconst (M := (M_law nm tb)) (n := 621) (v := 3) dL_law_620 rfl (by decide) ?_
  refine aw_iadd (M := (M_law nm tb)) (n := 622) dL_law_621 rfl ?_
  refine aw_sld (M := (M_law nm tb)) (n := 623) hG.2.1 hG.2.2.1 (hi 3 (by decide)) dL_law_622 rfl ?_
  refine aw_aload_n (M := (M_law nm tb)) (n := 624) (i := 0) dL_law_623 rfl rfl rfl ?_
  refine aw_iload (M := (M_law nm tb)) (n := 626) dL_law_624 rfl rfl ?_
  refine aw_iconst (M := (M_law nm tb)) (n := 627) (v := 4) dL_law_626 rfl (by decide) ?_
  refine aw_iadd (M := (M_law nm tb)) (n := 628) dL_law_627 rfl ?_
  refine aw_sld (M := (M_law nm tb)) (n := 629) hG.2.1 hG.2.2.1 (hi 4 (by decide)) dL_law_628 rfl ?_
  refine aw_cVi (M := (M_law nm tb)) (n := 632) (As := [.int (gx G (i + 1).toNatClampNeg), .int (gx G (i + 2).toNatClampNeg), .int (gx G (i + 3).toNatClampNeg), .int (gx G (i + 4).toNatClampNeg)]) (rest := []) hG.1 lw_L_121 rfl rfl (sF_88 hS) (c_X12_smell hG hS (h := Ok.bi h)) (by decide) (Nat.le_of_ble_eq_true rfl) (by omega) (by omega) dL_law_629 rfl (fun x1 D h => ?_)
  refine aw_istore (M := (M_law nm tb)) (n := 634) (al' := [some (.ref 30000), some (.ref 0), some (.ref 88), some (.ref 132), some (.int i), some (.int x0), some (.int x1)]) dL_law_632 rfl rfl (Nat.le_of_ble_eq_true rfl) rfl ?_
  refine aw_aload_n (M := (M_law nm tb)) (n := 635) (i := 2) dL_law_634 rfl rfl rfl ?_
  refine aw_cVi (M := (M_law nm tb)) (n := 638) (As := []) (rest := []) hG.1 lw_L_86 rfl rfl (sF_88 hS) (c_X12_thrown hG hS (h := Ok.bi h)) (by decide) (Nat.le_of_ble_eq_true rfl) (by omega) (by omega) dL_law_635 rfl (fun x2 D h => ?_)
  refine aw_iload (M := (M_law nm tb)) (n := 640) dL_law_638 rfl rfl ?_
  refine aw_icmp_eq (M := (M_law nm tb)) (n := 643) (tgt := 645) dL_law_640 rfl (by decide) (fun c => ?_) (fun c => ?_)
  rotate_left
  · exact aZ1 (Ok.dn (Ok.iff h c) :).1
  replace h := Ok.ift h c
  refine aw_iload (M := (M_law nm tb)) (n := 647) dL_law_645 rfl rfl ?_
  refine aw_if_ne (M := (M_law nm tb)) (n := 650) (tgt := 662) dL_law_647 rfl (by decide) (fun c => ?_) (fun c => ?_)
  · exact aw_goto (M := (M_law nm tb)) (tgt := 1683) dL_law_662 (by decide) (aw_le' (al' := [some (.ref 30000), some (.ref 0), some (.ref 88), some (.ref 132), some (.int i), none, none]) (aw_wid (by omega) (by omega) (KT _ (Ok.dn (Ok.ift h c) :).2)) (by exact ⟨rfl, rfl, rfl, rfl, rfl, trivial⟩))
  replace h := Ok.iff h (fun z => z c)
  refine aw_aload_n (M := (M_law nm tb)) (n := 651) (i := 3) dL_law_650 rfl rfl rfl ?_
  refine aw_iconst (M := (M_law nm tb)) (n := 652) (v := 0) dL_law_651 rfl (by decide) ?_
  refine aw_laload (M := (M_law nm tb)) (n := 653) hG.1 (sF_132 hS) (aIn_in (i := 0) (n := 1) rfl) dL_law_652 rfl ?_
  refine aw_iload (M := (M_law nm tb)) (n := 655) dL_law_653 rfl rfl ?_
  refine aw_i2l (M := (M_law nm tb)) (n := 656) dL_law_655 rfl ?_
  refine aw_lcmp (M := (M_law nm tb)) (n := 657) dL_law_656 rfl ?_
  refine aw_if_eq (M := (M_law nm tb)) (n := 660) (tgt := 662) dL_law_657 rfl (by decide) (fun c => ?_) (fun c => ?_)
  rotate_left
  · exact aZ1 (Ok.dn (Ok.iff h c) :).1
  replace h := Ok.ift h c
  refine aw_goto (M := (M_law nm tb)) (tgt := 1683) dL_law_662 (by decide) ?_
  exact aw_le' (al' := [some (.ref 30000), some (.ref 0), some (.ref 88), some (.ref 132), some (.int i), none, none]) (aw_wid (by omega) (by omega) (KT _ (Ok.dn h :).2)) (by exact ⟨rfl, rfl, rfl, rfl, rfl, trivial⟩)
theorem lw_L_122 : aLkX "NoseTownLaw" 122 M_L_smelt ∧ aNp M_L_smelt = some 7 := ⟨⟨aU_5 110 rfl rfl, aU_5 111 rfl rfl, aU_1 0 rfl rfl, aU_5 112 rfl rfl, ⟨by decide +kernel, by decide +kernel⟩⟩, by decide +kernel⟩
theorem lw_L_125 : aLkV "NoseTownLaw" 125 12 M_X12_smelt ∧ aNp M_X12_smelt = some 5 := ⟨⟨aU_8 31 rfl rfl, aU_8 32 rfl rfl, aU_8 33 rfl rfl, aU_1 14 rfl rfl, aU_8 34 rfl rfl, ⟨TX12, 66, rfl⟩, ⟨by decide +kernel, by decide +kernel⟩⟩, by decide +kernel⟩
def f_law_10 (v1 v2 v3 v4 v5 : Int32) (D : aD) : Option (Int32 × aD) :=
  aBi (f_L_smelt v1 v2 v3 v4 v5 D) (fun x0 D => aBi (f_X12_smelt v1 v2 v3 v4 v5 D) (fun x1 D => aBi (f_X12_thrown D) (fun x2 D => if x2 = x0 then if x0 ≠ 0 then some (1, D) else if (lg_cmp (gJ D 132 0) x1.toInt64) = 0 then some (1, D) else some (0, D) else some (0, D))))
set_option maxRecDepth 100000 in
set_option maxHeartbeats 1000000 in
theorem law_case_10 {G : aG} (hG : gOK G) (hN : va_Nc "java/lang/IllegalArgumentException" "java/util/NoSuchElementException" (gs G)) {shp : List aSh} (hS : aShp shp) {nm : String} {tb : List (Nat × Nat × Nat × Nat)} {fr : Option Nat} {kc ks : Nat} {i : Int32} {D : aD} {Q : aQ} {P : aD → Prop} (hi : ∀ c : Nat, c < 6 → vp_in (i + Int32.ofNat c) (gL G)) (hkc : kc + 4 ≤ 601024) (hks : ks + 24 ≤ 7293034) (h : Ok2 (f_law_10 (gx G (i + 1).toNatClampNeg) (gx G (i + 2).toNatClampNeg) (gx G (i + 3).toNatClampNeg) (gx G (i + 4).toNatClampNeg) (gx G (i + 5).toNatClampNeg) D) (fun r D => r = 1 ∧ P D)) (KT : ∀ D : aD, P D → AW G (aRm 1024 601024 7293034) (M_law nm tb) fr (kc + 4) (ks + 24) 1683 [some (.ref 30000), some (.ref 0), some (.ref 88), some (.ref 132), some (.int i), none, none] [] shp D Q) : AW G (aRm 1024 601024 7293034) (M_law nm tb) fr kc ks 665 [some (.ref 30000), some (.ref 0), some (.ref 88), some (.ref 132), some (.int i), none, none] [] shp D Q := by
  unfold f_law_10 at h
  replace h := Ok2.ok h
  refine aw_aload_n (M := (M_law nm tb)) (n := 666) (i := 1) dL_law_665 rfl rfl rfl ?_
  refine aw_aload_n (M := (M_law nm tb)) (n := 667) (i := 0) dL_law_666 rfl rfl rfl ?_
  refine aw_iload (M := (M_law nm tb)) (n := 669) dL_law_667 rfl rfl ?_
  refine aw_iconst (M := (M_law nm tb)) (n := 670) (v := 1) dL_law_669 rfl (by decide) ?_
  refine aw_iadd (M := (M_law nm tb)) (n := 671) dL_law_670 rfl ?_
  refine aw_sld (M := (M_law nm tb)) (n := 672) hG.2.1 hG.2.2.1 (hi 1 (by decide)) dL_law_671 rfl ?_
  refine aw_aload_n (M := (M_law nm tb)) (n := 673) (i := 0) dL_law_672 rfl rfl rfl ?_
  refine aw_iload (M := (M_law nm tb)) (n := 675) dL_law_673 rfl rfl ?_
  refine aw_iconst (M := (M_law nm tb)) (n := 676) (v := 2) dL_law_675 rfl (by decide) ?_
  refine aw_iadd (M := (M_law nm tb)) (n := 677) dL_law_676 rfl ?_
  refine aw_sld (M := (M_law nm tb)) (n := 678) hG.2.1 hG.2.2.1 (hi 2 (by decide)) dL_law_677 rfl ?_
  refine aw_aload_n (M := (M_law nm tb)) (n := 679) (i := 0) dL_law_678 rfl rfl rfl ?_
  refine aw_iload (M := (M_law nm tb)) (n := 681) dL_law_679 rfl rfl ?_
  refine aw_iconst (M := (M_law nm tb)) (n := 682) (v := 3) dL_law_681 rfl (by decide) ?_
  refine aw_iadd (M := (M_law nm tb)) (n := 683) dL_law_682 rfl ?_
  refine aw_sld (M := (M_law nm tb)) (n := 684) hG.2.1 hG.2.2.1 (hi 3 (by decide)) dL_law_683 rfl ?_
  refine aw_aload_n (M := (M_law nm tb)) (n := 685) (i := 0) dL_law_684 rfl rfl rfl ?_
  refine aw_iload (M := (M_law nm tb)) (n := 687) dL_law_685 rfl rfl ?_
  refine aw_iconst (M := (M_law nm tb)) (n := 688) (v := 4) dL_law_687 rfl (by decide) ?_
  refine aw_iadd (M := (M_law nm tb)) (n := 689) dL_law_688 rfl ?_
  refine aw_sld (M := (M_law nm tb)) (n := 690) hG.2.1 hG.2.2.1 (hi 4 (by decide)) dL_law_689 rfl ?_
  refine aw_aload_n (M := (M_law nm tb)) (n := 691) (i := 0) dL_law_690 rfl rfl rfl ?_
  refine aw_iload (M := (M_law nm tb)) (n := 693) dL_law_691 rfl rfl ?_
  refine aw_iconst (M := (M_law nm tb)) (n := 694) (v := 5) dL_law_693 rfl (by decide) ?_
  refine aw_iadd (M := (M_law nm tb)) (n := 695) dL_law_694 rfl ?_
  refine aw_sld (M := (M_law nm tb)) (n := 696) hG.2.1 hG.2.2.1 (hi 5 (by decide)) dL_law_695 rfl ?_
  refine aw_aload_n (M := (M_law nm tb)) (n := 697) (i := 3) dL_law_696 rfl rfl rfl ?_
  refine aw_cXi (M := (M_law nm tb)) (n := 700) (As := [.ref 0, .int (gx G (i + 1).toNatClampNeg), .int (gx G (i + 2).toNatClampNeg), .int (gx G (i + 3).toNatClampNeg), .int (gx G (i + 4).toNatClampNeg), .int (gx G (i + 5).toNatClampNeg), .ref 132]) (rest := []) lw_L_122 rfl rfl (c_L_smelt hG hN hS (h := Ok.bi h)) (by decide) (Nat.le_of_ble_eq_true rfl) (by omega) (by omega) dL_law_697 rfl (fun x0 D h => ?_)
  refine aw_istore (M := (M_law nm tb)) (n := 702) (al' := [some (.ref 30000), some (.ref 0), some (.ref 88), some (.ref 132), some (.int i), some (.int x0), none]) dL_law_700 rfl rfl (Nat.le_of_ble_eq_true rfl) rfl ?_
  refine aw_aload_n (M := (M_law nm tb)) (n := 703) (i := 2) dL_law_702 rfl rfl rfl ?_
  refine aw_aload_n (M := (M_law nm tb)) (n := 704) (i := 0) dL_law_703 rfl rfl rfl ?_
  refine aw_iload (M := (M_law nm tb)) (n := 706) dL_law_704 rfl rfl ?_
  refine aw_iconst (M := (M_law nm tb)) (n := 707) (v := 1) dL_law_706 rfl (by decide) ?_
  refine aw_iadd (M := (M_law nm tb)) (n := 708) dL_law_707 rfl ?_
  refine aw_sld (M := (M_law nm tb)) (n := 709) hG.2.1 hG.2.2.1 (hi 1 (by decide)) dL_law_708 rfl ?_
  refine aw_aload_n (M := (M_law nm tb)) (n := 710) (i := 0) dL_law_709 rfl rfl rfl ?_
  refine aw_iload (M := (M_law nm tb)) (n := 712) dL_law_710 rfl rfl ?_
  refine aw_iconst (M := (M_law nm tb)) (n := 713) (v := 2) dL_law_712 rfl (by decide) ?_
  refine aw_iadd (M := (M_law nm tb)) (n := 714) dL_law_713 rfl ?_
  refine aw_sld (M := (M_law nm tb)) (n := 715) hG.2.1 hG.2.2.1 (hi 2 (by decide)) dL_law_714 rfl ?_
  refine aw_aload_n (M := (M_law nm tb)) (n := 716) (i := 0) dL_law_715 rfl rfl rfl ?_
  refine aw_iload (M := (M_law nm tb)) (n := 718) dL_law_716 rfl rfl ?_
  refine aw_iconst (M := (M_law nm tb)) (n := 719) (v := 3) dL_law_718 rfl (by decide) ?_
  refine aw_iadd (M := (M_law nm tb)) (n := 720) dL_law_719 rfl ?_
  refine aw_sld (M := (M_law nm tb)) (n := 721) hG.2.1 hG.2.2.1 (hi 3 (by decide)) dL_law_720 rfl ?_
  refine aw_aload_n (M := (M_law nm tb)) (n := 722) (i := 0) dL_law_721 rfl rfl rfl ?_
  refine aw_iload (M := (M_law nm tb)) (n := 724) dL_law_722 rfl rfl ?_
  refine aw_iconst (M := (M_law nm tb)) (n := 725) (v := 4) dL_law_724 rfl (by decide) ?_
  refine aw_iadd (M := (M_law nm tb)) (n := 726) dL_law_725 rfl ?_
  refine aw_sld (M := (M_law nm tb)) (n := 727) hG.2.1 hG.2.2.1 (hi 4 (by decide)) dL_law_726 rfl ?_
  refine aw_aload_n (M := (M_law nm tb)) (n := 728) (i := 0) dL_law_727 rfl rfl rfl ?_
  refine aw_iload (M := (M_law nm tb)) (n := 730) dL_law_728 rfl rfl ?_
  refine aw_iconst (M := (M_law nm tb)) (n := 731) (v := 5) dL_law_730 rfl (by decide) ?_
  refine aw_iadd (M := (M_law nm tb)) (n := 732) dL_law_731 rfl ?_
  refine aw_sld (M := (M_law nm tb)) (n := 733) hG.2.1 hG.2.2.1 (hi 5 (by decide)) dL_law_732 rfl ?_
  refine aw_cVi (M := (M_law nm tb)) (n := 736) (As := [.int (gx G (i + 1).toNatClampNeg), .int (gx G (i + 2).toNatClampNeg), .int (gx G (i + 3).toNatClampNeg), .int (gx G (i + 4).toNatClampNeg), .int (gx G (i + 5).toNatClampNeg)]) (rest := []) hG.1 lw_L_125 rfl rfl (sF_88 hS) (c_X12_smelt hG hS (h := Ok.bi h)) (by decide) (Nat.le_of_ble_eq_true rfl) (by omega) (by omega) dL_law_733 rfl (fun x1 D h => ?_)
  refine aw_istore (M := (M_law nm tb)) (n := 738) (al' := [some (.ref 30000), some (.ref 0), some (.ref 88), some (.ref 132), some (.int i), some (.int x0), some (.int x1)]) dL_law_736 rfl rfl (Nat.le_of_ble_eq_true rfl) rfl ?_
  refine aw_aload_n (M := (M_law nm tb)) (n := 739) (i := 2) dL_law_738 rfl rfl rfl ?_
  refine aw_cVi (M := (M_law nm tb)) (n := 742) (As := []) (rest := []) hG.1 lw_L_86 rfl rfl (sF_88 hS) (c_X12_thrown hG hS (h := Ok.bi h)) (by decide) (Nat.le_of_ble_eq_true rfl) (by omega) (by omega) dL_law_739 rfl (fun x2 D h => ?_)
  refine aw_iload (M := (M_law nm tb)) (n := 744) dL_law_742 rfl rfl ?_
  refine aw_icmp_eq (M := (M_law nm tb)) (n := 747) (tgt := 749) dL_law_744 rfl (by decide) (fun c => ?_) (fun c => ?_)
  rotate_left
  · exact aZ1 (Ok.dn (Ok.iff h c) :).1
  replace h := Ok.ift h c
  refine aw_iload (M := (M_law nm tb)) (n := 751) dL_law_749 rfl rfl ?_
  refine aw_if_ne (M := (M_law nm tb)) (n := 754) (tgt := 766) dL_law_751 rfl (by decide) (fun c => ?_) (fun c => ?_)
  · exact aw_goto (M := (M_law nm tb)) (tgt := 1683) dL_law_766 (by decide) (aw_le' (al' := [some (.ref 30000), some (.ref 0), some (.ref 88), some (.ref 132), some (.int i), none, none]) (aw_wid (by omega) (by omega) (KT _ (Ok.dn (Ok.ift h c) :).2)) (by exact ⟨rfl, rfl, rfl, rfl, rfl, trivial⟩))
  replace h := Ok.iff h (fun z => z c)
  refine aw_aload_n (M := (M_law nm tb)) (n := 755) (i := 3) dL_law_754 rfl rfl rfl ?_
  refine aw_iconst (M := (M_law nm tb)) (n := 756) (v := 0) dL_law_755 rfl (by decide) ?_
  refine aw_laload (M := (M_law nm tb)) (n := 757) hG.1 (sF_132 hS) (aIn_in (i := 0) (n := 1) rfl) dL_law_756 rfl ?_
  refine aw_iload (M := (M_law nm tb)) (n := 759) dL_law_757 rfl rfl ?_
  refine aw_i2l (M := (M_law nm tb)) (n := 760) dL_law_759 rfl ?_
  refine aw_lcmp (M := (M_law nm tb)) (n := 761) dL_law_760 rfl ?_
  refine aw_if_eq (M := (M_law nm tb)) (n := 764) (tgt := 766) dL_law_761 rfl (by decide) (fun c => ?_) (fun c => ?_)
  rotate_left
  · exact aZ1 (Ok.dn (Ok.iff h c) :).1
  replace h := Ok.ift h c
  refine aw_goto (M := (M_law nm tb)) (tgt := 1683) dL_law_766 (by decide) ?_
  exact aw_le' (al' := [some (.ref 30000), some (.ref 0), some (.ref 88), some (.ref 132), some (.int i), none, none]) (aw_wid (by omega) (by omega) (KT _ (Ok.dn h :).2)) (by exact ⟨rfl, rfl, rfl, rfl, rfl, trivial⟩)
theorem lw_L_126 : aLkX "NoseTownLaw" 126 M_L_mark ∧ aNp M_L_mark = some 6 := ⟨⟨aU_5 126 rfl rfl, aU_5 127 rfl rfl, aU_1 0 rfl rfl, aU_5 128 rfl rfl, ⟨by decide +kernel, by decide +kernel⟩⟩, by decide +kernel⟩
theorem lw_L_128 : aLkV "NoseTownLaw" 128 12 M_X12_mark ∧ aNp M_X12_mark = some 4 := ⟨⟨aU_8 43 rfl rfl, aU_8 44 rfl rfl, aU_8 45 rfl rfl, aU_1 14 rfl rfl, aU_8 46 rfl rfl, ⟨TX12, 66, rfl⟩, ⟨by decide +kernel, by decide +kernel⟩⟩, by decide +kernel⟩
def f_law_11 (v1 v2 v3 v4 v5 : Int32) (D : aD) : Option (Int32 × aD) :=
  aBi (f_L_mark v1 v2 v3 v4 D) (fun x0 D => aBi (f_X12_mark v1 v2 v3 v4 D) (fun x1 D => aBi (f_X12_thrown D) (fun x2 D => if x2 = x0 then if x0 ≠ 0 then some (1, D) else if (lg_cmp (gJ D 132 0) x1.toInt64) = 0 then some (1, D) else some (0, D) else some (0, D))))
set_option maxRecDepth 100000 in
set_option maxHeartbeats 1000000 in
theorem law_case_11 {G : aG} (hG : gOK G) (hN : va_Nc "java/lang/IllegalArgumentException" "java/util/NoSuchElementException" (gs G)) {shp : List aSh} (hS : aShp shp) {nm : String} {tb : List (Nat × Nat × Nat × Nat)} {fr : Option Nat} {kc ks : Nat} {i : Int32} {D : aD} {Q : aQ} {P : aD → Prop} (hi : ∀ c : Nat, c < 6 → vp_in (i + Int32.ofNat c) (gL G)) (hkc : kc + 4 ≤ 601024) (hks : ks + 24 ≤ 7293034) (h : Ok2 (f_law_11 (gx G (i + 1).toNatClampNeg) (gx G (i + 2).toNatClampNeg) (gx G (i + 3).toNatClampNeg) (gx G (i + 4).toNatClampNeg) (gx G (i + 5).toNatClampNeg) D) (fun r D => r = 1 ∧ P D)) (KT : ∀ D : aD, P D → AW G (aRm 1024 601024 7293034) (M_law nm tb) fr (kc + 4) (ks + 24) 1683 [some (.ref 30000), some (.ref 0), some (.ref 88), some (.ref 132), some (.int i), none, none] [] shp D Q) : AW G (aRm 1024 601024 7293034) (M_law nm tb) fr kc ks 769 [some (.ref 30000), some (.ref 0), some (.ref 88), some (.ref 132), some (.int i), none, none] [] shp D Q := by
  unfold f_law_11 at h
  replace h := Ok2.ok h
  refine aw_aload_n (M := (M_law nm tb)) (n := 770) (i := 1) dL_law_769 rfl rfl rfl ?_
  refine aw_aload_n (M := (M_law nm tb)) (n := 771) (i := 0) dL_law_770 rfl rfl rfl ?_
  refine aw_iload (M := (M_law nm tb)) (n := 773) dL_law_771 rfl rfl ?_
  refine aw_iconst (M := (M_law nm tb)) (n := 774) (v := 1) dL_law_773 rfl (by decide) ?_
  refine aw_iadd (M := (M_law nm tb)) (n := 775) dL_law_774 rfl ?_
  refine aw_sld (M := (M_law nm tb)) (n := 776) hG.2.1 hG.2.2.1 (hi 1 (by decide)) dL_law_775 rfl ?_
  refine aw_aload_n (M := (M_law nm tb)) (n := 777) (i := 0) dL_law_776 rfl rfl rfl ?_
  refine aw_iload (M := (M_law nm tb)) (n := 779) dL_law_777 rfl rfl ?_
  refine aw_iconst (M := (M_law nm tb)) (n := 780) (v := 2) dL_law_779 rfl (by decide) ?_
  refine aw_iadd (M := (M_law nm tb)) (n := 781) dL_law_780 rfl ?_
  refine aw_sld (M := (M_law nm tb)) (n := 782) hG.2.1 hG.2.2.1 (hi 2 (by decide)) dL_law_781 rfl ?_
  refine aw_aload_n (M := (M_law nm tb)) (n := 783) (i := 0) dL_law_782 rfl rfl rfl ?_
  refine aw_iload (M := (M_law nm tb)) (n := 785) dL_law_783 rfl rfl ?_
  refine aw_iconst (M := (M_law nm tb)) (n := 786) (v := 3) dL_law_785 rfl (by decide) ?_
  refine aw_iadd (M := (M_law nm tb)) (n := 787) dL_law_786 rfl ?_
  refine aw_sld (M := (M_law nm tb)) (n := 788) hG.2.1 hG.2.2.1 (hi 3 (by decide)) dL_law_787 rfl ?_
  refine aw_aload_n (M := (M_law nm tb)) (n := 789) (i := 0) dL_law_788 rfl rfl rfl ?_
  refine aw_iload (M := (M_law nm tb)) (n := 791) dL_law_789 rfl rfl ?_
  refine aw_iconst (M := (M_law nm tb)) (n := 792) (v := 4) dL_law_791 rfl (by decide) ?_
  refine aw_iadd (M := (M_law nm tb)) (n := 793) dL_law_792 rfl ?_
  refine aw_sld (M := (M_law nm tb)) (n := 794) hG.2.1 hG.2.2.1 (hi 4 (by decide)) dL_law_793 rfl ?_
  refine aw_aload_n (M := (M_law nm tb)) (n := 795) (i := 3) dL_law_794 rfl rfl rfl ?_
  refine aw_cXi (M := (M_law nm tb)) (n := 798) (As := [.ref 0, .int (gx G (i + 1).toNatClampNeg), .int (gx G (i + 2).toNatClampNeg), .int (gx G (i + 3).toNatClampNeg), .int (gx G (i + 4).toNatClampNeg), .ref 132]) (rest := []) lw_L_126 rfl rfl (c_L_mark hG hN hS (h := Ok.bi h)) (by decide) (Nat.le_of_ble_eq_true rfl) (by omega) (by omega) dL_law_795 rfl (fun x0 D h => ?_)
  refine aw_istore (M := (M_law nm tb)) (n := 800) (al' := [some (.ref 30000), some (.ref 0), some (.ref 88), some (.ref 132), some (.int i), some (.int x0), none]) dL_law_798 rfl rfl (Nat.le_of_ble_eq_true rfl) rfl ?_
  refine aw_aload_n (M := (M_law nm tb)) (n := 801) (i := 2) dL_law_800 rfl rfl rfl ?_
  refine aw_aload_n (M := (M_law nm tb)) (n := 802) (i := 0) dL_law_801 rfl rfl rfl ?_
  refine aw_iload (M := (M_law nm tb)) (n := 804) dL_law_802 rfl rfl ?_
  refine aw_iconst (M := (M_law nm tb)) (n := 805) (v := 1) dL_law_804 rfl (by decide) ?_
  refine aw_iadd (M := (M_law nm tb)) (n := 806) dL_law_805 rfl ?_
  refine aw_sld (M := (M_law nm tb)) (n := 807) hG.2.1 hG.2.2.1 (hi 1 (by decide)) dL_law_806 rfl ?_
  refine aw_aload_n (M := (M_law nm tb)) (n := 808) (i := 0) dL_law_807 rfl rfl rfl ?_
  refine aw_iload (M := (M_law nm tb)) (n := 810) dL_law_808 rfl rfl ?_
  refine aw_iconst (M := (M_law nm tb)) (n := 811) (v := 2) dL_law_810 rfl (by decide) ?_
  refine aw_iadd (M := (M_law nm tb)) (n := 812) dL_law_811 rfl ?_
  refine aw_sld (M := (M_law nm tb)) (n := 813) hG.2.1 hG.2.2.1 (hi 2 (by decide)) dL_law_812 rfl ?_
  refine aw_aload_n (M := (M_law nm tb)) (n := 814) (i := 0) dL_law_813 rfl rfl rfl ?_
  refine aw_iload (M := (M_law nm tb)) (n := 816) dL_law_814 rfl rfl ?_
  refine aw_iconst (M := (M_law nm tb)) (n := 817) (v := 3) dL_law_816 rfl (by decide) ?_
  refine aw_iadd (M := (M_law nm tb)) (n := 818) dL_law_817 rfl ?_
  refine aw_sld (M := (M_law nm tb)) (n := 819) hG.2.1 hG.2.2.1 (hi 3 (by decide)) dL_law_818 rfl ?_
  refine aw_aload_n (M := (M_law nm tb)) (n := 820) (i := 0) dL_law_819 rfl rfl rfl ?_
  refine aw_iload (M := (M_law nm tb)) (n := 822) dL_law_820 rfl rfl ?_
  refine aw_iconst (M := (M_law nm tb)) (n := 823) (v := 4) dL_law_822 rfl (by decide) ?_
  refine aw_iadd (M := (M_law nm tb)) (n := 824) dL_law_823 rfl ?_
  refine aw_sld (M := (M_law nm tb)) (n := 825) hG.2.1 hG.2.2.1 (hi 4 (by decide)) dL_law_824 rfl ?_
  refine aw_cVi (M := (M_law nm tb)) (n := 828) (As := [.int (gx G (i + 1).toNatClampNeg), .int (gx G (i + 2).toNatClampNeg), .int (gx G (i + 3).toNatClampNeg), .int (gx G (i + 4).toNatClampNeg)]) (rest := []) hG.1 lw_L_128 rfl rfl (sF_88 hS) (c_X12_mark hG hS (h := Ok.bi h)) (by decide) (Nat.le_of_ble_eq_true rfl) (by omega) (by omega) dL_law_825 rfl (fun x1 D h => ?_)
  refine aw_istore (M := (M_law nm tb)) (n := 830) (al' := [some (.ref 30000), some (.ref 0), some (.ref 88), some (.ref 132), some (.int i), some (.int x0), some (.int x1)]) dL_law_828 rfl rfl (Nat.le_of_ble_eq_true rfl) rfl ?_
  refine aw_aload_n (M := (M_law nm tb)) (n := 831) (i := 2) dL_law_830 rfl rfl rfl ?_
  refine aw_cVi (M := (M_law nm tb)) (n := 834) (As := []) (rest := []) hG.1 lw_L_86 rfl rfl (sF_88 hS) (c_X12_thrown hG hS (h := Ok.bi h)) (by decide) (Nat.le_of_ble_eq_true rfl) (by omega) (by omega) dL_law_831 rfl (fun x2 D h => ?_)
  refine aw_iload (M := (M_law nm tb)) (n := 836) dL_law_834 rfl rfl ?_
  refine aw_icmp_eq (M := (M_law nm tb)) (n := 839) (tgt := 841) dL_law_836 rfl (by decide) (fun c => ?_) (fun c => ?_)
  rotate_left
  · exact aZ1 (Ok.dn (Ok.iff h c) :).1
  replace h := Ok.ift h c
  refine aw_iload (M := (M_law nm tb)) (n := 843) dL_law_841 rfl rfl ?_
  refine aw_if_ne (M := (M_law nm tb)) (n := 846) (tgt := 858) dL_law_843 rfl (by decide) (fun c => ?_) (fun c => ?_)
  · exact aw_goto (M := (M_law nm tb)) (tgt := 1683) dL_law_858 (by decide) (aw_le' (al' := [some (.ref 30000), some (.ref 0), some (.ref 88), some (.ref 132), some (.int i), none, none]) (aw_wid (by omega) (by omega) (KT _ (Ok.dn (Ok.ift h c) :).2)) (by exact ⟨rfl, rfl, rfl, rfl, rfl, trivial⟩))
  replace h := Ok.iff h (fun z => z c)
  refine aw_aload_n (M := (M_law nm tb)) (n := 847) (i := 3) dL_law_846 rfl rfl rfl ?_
  refine aw_iconst (M := (M_law nm tb)) (n := 848) (v := 0) dL_law_847 rfl (by decide) ?_
  refine aw_laload (M := (M_law nm tb)) (n := 849) hG.1 (sF_132 hS) (aIn_in (i := 0) (n := 1) rfl) dL_law_848 rfl ?_
  refine aw_iload (M := (M_law nm tb)) (n := 851) dL_law_849 rfl rfl ?_
  refine aw_i2l (M := (M_law nm tb)) (n := 852) dL_law_851 rfl ?_
  refine aw_lcmp (M := (M_law nm tb)) (n := 853) dL_law_852 rfl ?_
  refine aw_if_eq (M := (M_law nm tb)) (n := 856) (tgt := 858) dL_law_853 rfl (by decide) (fun c => ?_) (fun c => ?_)
  rotate_left
  · exact aZ1 (Ok.dn (Ok.iff h c) :).1
  replace h := Ok.ift h c
  refine aw_goto (M := (M_law nm tb)) (tgt := 1683) dL_law_858 (by decide) ?_
  exact aw_le' (al' := [some (.ref 30000), some (.ref 0), some (.ref 88), some (.ref 132), some (.int i), none, none]) (aw_wid (by omega) (by omega) (KT _ (Ok.dn h :).2)) (by exact ⟨rfl, rfl, rfl, rfl, rfl, trivial⟩)
theorem lw_L_129 : aLkX "NoseTownLaw" 129 M_L_sum ∧ aNp M_L_sum = some 4 := ⟨⟨aU_5 141 rfl rfl, aU_5 142 rfl rfl, aU_1 0 rfl rfl, aU_5 143 rfl rfl, ⟨by decide +kernel, by decide +kernel⟩⟩, by decide +kernel⟩
theorem lw_L_131 : aLkV "NoseTownLaw" 131 12 M_X12_sum ∧ aNp M_X12_sum = some 2 := ⟨⟨aU_8 55 rfl rfl, aU_8 56 rfl rfl, aU_8 57 rfl rfl, aU_1 14 rfl rfl, aU_8 58 rfl rfl, ⟨TX12, 66, rfl⟩, ⟨by decide +kernel, by decide +kernel⟩⟩, by decide +kernel⟩
def f_law_12 (v1 v2 v3 v4 v5 : Int32) (D : aD) : Option (Int32 × aD) :=
  aBi (f_L_sum v1 v2 D) (fun x0 D => aBi (f_X12_sum v1 v2 D) (fun x1 D => aBi (f_X12_thrown D) (fun x2 D => if x2 = x0 then if x0 ≠ 0 then some (1, D) else if (lg_cmp (gJ D 132 0) x1.toInt64) = 0 then some (1, D) else some (0, D) else some (0, D))))
set_option maxRecDepth 100000 in
set_option maxHeartbeats 1000000 in
theorem law_case_12 {G : aG} (hG : gOK G) (hN : va_Nc "java/lang/IllegalArgumentException" "java/util/NoSuchElementException" (gs G)) {shp : List aSh} (hS : aShp shp) {nm : String} {tb : List (Nat × Nat × Nat × Nat)} {fr : Option Nat} {kc ks : Nat} {i : Int32} {D : aD} {Q : aQ} {P : aD → Prop} (hi : ∀ c : Nat, c < 6 → vp_in (i + Int32.ofNat c) (gL G)) (hkc : kc + 4 ≤ 601024) (hks : ks + 24 ≤ 7293034) (h : Ok2 (f_law_12 (gx G (i + 1).toNatClampNeg) (gx G (i + 2).toNatClampNeg) (gx G (i + 3).toNatClampNeg) (gx G (i + 4).toNatClampNeg) (gx G (i + 5).toNatClampNeg) D) (fun r D => r = 1 ∧ P D)) (KT : ∀ D : aD, P D → AW G (aRm 1024 601024 7293034) (M_law nm tb) fr (kc + 4) (ks + 24) 1683 [some (.ref 30000), some (.ref 0), some (.ref 88), some (.ref 132), some (.int i), none, none] [] shp D Q) : AW G (aRm 1024 601024 7293034) (M_law nm tb) fr kc ks 861 [some (.ref 30000), some (.ref 0), some (.ref 88), some (.ref 132), some (.int i), none, none] [] shp D Q := by
  unfold f_law_12 at h
  replace h := Ok2.ok h
  refine aw_aload_n (M := (M_law nm tb)) (n := 862) (i := 1) dL_law_861 rfl rfl rfl ?_
  refine aw_aload_n (M := (M_law nm tb)) (n := 863) (i := 0) dL_law_862 rfl rfl rfl ?_
  refine aw_iload (M := (M_law nm tb)) (n := 865) dL_law_863 rfl rfl ?_
  refine aw_iconst (M := (M_law nm tb)) (n := 866) (v := 1) dL_law_865 rfl (by decide) ?_
  refine aw_iadd (M := (M_law nm tb)) (n := 867) dL_law_866 rfl ?_
  refine aw_sld (M := (M_law nm tb)) (n := 868) hG.2.1 hG.2.2.1 (hi 1 (by decide)) dL_law_867 rfl ?_
  refine aw_aload_n (M := (M_law nm tb)) (n := 869) (i := 0) dL_law_868 rfl rfl rfl ?_
  refine aw_iload (M := (M_law nm tb)) (n := 871) dL_law_869 rfl rfl ?_
  refine aw_iconst (M := (M_law nm tb)) (n := 872) (v := 2) dL_law_871 rfl (by decide) ?_
  refine aw_iadd (M := (M_law nm tb)) (n := 873) dL_law_872 rfl ?_
  refine aw_sld (M := (M_law nm tb)) (n := 874) hG.2.1 hG.2.2.1 (hi 2 (by decide)) dL_law_873 rfl ?_
  refine aw_aload_n (M := (M_law nm tb)) (n := 875) (i := 3) dL_law_874 rfl rfl rfl ?_
  refine aw_cXi (M := (M_law nm tb)) (n := 878) (As := [.ref 0, .int (gx G (i + 1).toNatClampNeg), .int (gx G (i + 2).toNatClampNeg), .ref 132]) (rest := []) lw_L_129 rfl rfl (c_L_sum hG hN hS (h := Ok.bi h)) (by decide) (Nat.le_of_ble_eq_true rfl) (by omega) (by omega) dL_law_875 rfl (fun x0 D h => ?_)
  refine aw_istore (M := (M_law nm tb)) (n := 880) (al' := [some (.ref 30000), some (.ref 0), some (.ref 88), some (.ref 132), some (.int i), some (.int x0), none]) dL_law_878 rfl rfl (Nat.le_of_ble_eq_true rfl) rfl ?_
  refine aw_aload_n (M := (M_law nm tb)) (n := 881) (i := 2) dL_law_880 rfl rfl rfl ?_
  refine aw_aload_n (M := (M_law nm tb)) (n := 882) (i := 0) dL_law_881 rfl rfl rfl ?_
  refine aw_iload (M := (M_law nm tb)) (n := 884) dL_law_882 rfl rfl ?_
  refine aw_iconst (M := (M_law nm tb)) (n := 885) (v := 1) dL_law_884 rfl (by decide) ?_
  refine aw_iadd (M := (M_law nm tb)) (n := 886) dL_law_885 rfl ?_
  refine aw_sld (M := (M_law nm tb)) (n := 887) hG.2.1 hG.2.2.1 (hi 1 (by decide)) dL_law_886 rfl ?_
  refine aw_aload_n (M := (M_law nm tb)) (n := 888) (i := 0) dL_law_887 rfl rfl rfl ?_
  refine aw_iload (M := (M_law nm tb)) (n := 890) dL_law_888 rfl rfl ?_
  refine aw_iconst (M := (M_law nm tb)) (n := 891) (v := 2) dL_law_890 rfl (by decide) ?_
  refine aw_iadd (M := (M_law nm tb)) (n := 892) dL_law_891 rfl ?_
  refine aw_sld (M := (M_law nm tb)) (n := 893) hG.2.1 hG.2.2.1 (hi 2 (by decide)) dL_law_892 rfl ?_
  refine aw_cVi (M := (M_law nm tb)) (n := 896) (As := [.int (gx G (i + 1).toNatClampNeg), .int (gx G (i + 2).toNatClampNeg)]) (rest := []) hG.1 lw_L_131 rfl rfl (sF_88 hS) (c_X12_sum hG hS (h := Ok.bi h)) (by decide) (Nat.le_of_ble_eq_true rfl) (by omega) (by omega) dL_law_893 rfl (fun x1 D h => ?_)
  refine aw_istore (M := (M_law nm tb)) (n := 898) (al' := [some (.ref 30000), some (.ref 0), some (.ref 88), some (.ref 132), some (.int i), some (.int x0), some (.int x1)]) dL_law_896 rfl rfl (Nat.le_of_ble_eq_true rfl) rfl ?_
  refine aw_aload_n (M := (M_law nm tb)) (n := 899) (i := 2) dL_law_898 rfl rfl rfl ?_
  refine aw_cVi (M := (M_law nm tb)) (n := 902) (As := []) (rest := []) hG.1 lw_L_86 rfl rfl (sF_88 hS) (c_X12_thrown hG hS (h := Ok.bi h)) (by decide) (Nat.le_of_ble_eq_true rfl) (by omega) (by omega) dL_law_899 rfl (fun x2 D h => ?_)
  refine aw_iload (M := (M_law nm tb)) (n := 904) dL_law_902 rfl rfl ?_
  refine aw_icmp_eq (M := (M_law nm tb)) (n := 907) (tgt := 909) dL_law_904 rfl (by decide) (fun c => ?_) (fun c => ?_)
  rotate_left
  · exact aZ1 (Ok.dn (Ok.iff h c) :).1
  replace h := Ok.ift h c
  refine aw_iload (M := (M_law nm tb)) (n := 911) dL_law_909 rfl rfl ?_
  refine aw_if_ne (M := (M_law nm tb)) (n := 914) (tgt := 926) dL_law_911 rfl (by decide) (fun c => ?_) (fun c => ?_)
  · exact aw_goto (M := (M_law nm tb)) (tgt := 1683) dL_law_926 (by decide) (aw_le' (al' := [some (.ref 30000), some (.ref 0), some (.ref 88), some (.ref 132), some (.int i), none, none]) (aw_wid (by omega) (by omega) (KT _ (Ok.dn (Ok.ift h c) :).2)) (by exact ⟨rfl, rfl, rfl, rfl, rfl, trivial⟩))
  replace h := Ok.iff h (fun z => z c)
  refine aw_aload_n (M := (M_law nm tb)) (n := 915) (i := 3) dL_law_914 rfl rfl rfl ?_
  refine aw_iconst (M := (M_law nm tb)) (n := 916) (v := 0) dL_law_915 rfl (by decide) ?_
  refine aw_laload (M := (M_law nm tb)) (n := 917) hG.1 (sF_132 hS) (aIn_in (i := 0) (n := 1) rfl) dL_law_916 rfl ?_
  refine aw_iload (M := (M_law nm tb)) (n := 919) dL_law_917 rfl rfl ?_
  refine aw_i2l (M := (M_law nm tb)) (n := 920) dL_law_919 rfl ?_
  refine aw_lcmp (M := (M_law nm tb)) (n := 921) dL_law_920 rfl ?_
  refine aw_if_eq (M := (M_law nm tb)) (n := 924) (tgt := 926) dL_law_921 rfl (by decide) (fun c => ?_) (fun c => ?_)
  rotate_left
  · exact aZ1 (Ok.dn (Ok.iff h c) :).1
  replace h := Ok.ift h c
  refine aw_goto (M := (M_law nm tb)) (tgt := 1683) dL_law_926 (by decide) ?_
  exact aw_le' (al' := [some (.ref 30000), some (.ref 0), some (.ref 88), some (.ref 132), some (.int i), none, none]) (aw_wid (by omega) (by omega) (KT _ (Ok.dn h :).2)) (by exact ⟨rfl, rfl, rfl, rfl, rfl, trivial⟩)
theorem lw_L_132 : aLkX "NoseTownLaw" 132 M_L_winner ∧ aNp M_L_winner = some 4 := ⟨⟨aU_5 153 rfl rfl, aU_5 154 rfl rfl, aU_1 0 rfl rfl, aU_5 155 rfl rfl, ⟨by decide +kernel, by decide +kernel⟩⟩, by decide +kernel⟩
theorem lw_L_134 : aLkV "NoseTownLaw" 134 12 M_X12_winner ∧ aNp M_X12_winner = some 2 := ⟨⟨aU_8 63 rfl rfl, aU_8 64 rfl rfl, aU_8 65 rfl rfl, aU_1 14 rfl rfl, aU_8 66 rfl rfl, ⟨TX12, 66, rfl⟩, ⟨by decide +kernel, by decide +kernel⟩⟩, by decide +kernel⟩
def f_law_13 (v1 v2 v3 v4 v5 : Int32) (D : aD) : Option (Int32 × aD) :=
  aBi (f_L_winner v1 v2 D) (fun x0 D => aBi (f_X12_winner v1 v2 D) (fun x1 D => aBi (f_X12_thrown D) (fun x2 D => if x2 = x0 then if x0 ≠ 0 then some (1, D) else if (lg_cmp (gJ D 132 0) x1.toInt64) = 0 then some (1, D) else some (0, D) else some (0, D))))
set_option maxRecDepth 100000 in
set_option maxHeartbeats 1000000 in
theorem law_case_13 {G : aG} (hG : gOK G) (hN : va_Nc "java/lang/IllegalArgumentException" "java/util/NoSuchElementException" (gs G)) {shp : List aSh} (hS : aShp shp) {nm : String} {tb : List (Nat × Nat × Nat × Nat)} {fr : Option Nat} {kc ks : Nat} {i : Int32} {D : aD} {Q : aQ} {P : aD → Prop} (hi : ∀ c : Nat, c < 6 → vp_in (i + Int32.ofNat c) (gL G)) (hkc : kc + 4 ≤ 601024) (hks : ks + 24 ≤ 7293034) (h : Ok2 (f_law_13 (gx G (i + 1).toNatClampNeg) (gx G (i + 2).toNatClampNeg) (gx G (i + 3).toNatClampNeg) (gx G (i + 4).toNatClampNeg) (gx G (i + 5).toNatClampNeg) D) (fun r D => r = 1 ∧ P D)) (KT : ∀ D : aD, P D → AW G (aRm 1024 601024 7293034) (M_law nm tb) fr (kc + 4) (ks + 24) 1683 [some (.ref 30000), some (.ref 0), some (.ref 88), some (.ref 132), some (.int i), none, none] [] shp D Q) : AW G (aRm 1024 601024 7293034) (M_law nm tb) fr kc ks 929 [some (.ref 30000), some (.ref 0), some (.ref 88), some (.ref 132), some (.int i), none, none] [] shp D Q := by
  unfold f_law_13 at h
  replace h := Ok2.ok h
  refine aw_aload_n (M := (M_law nm tb)) (n := 930) (i := 1) dL_law_929 rfl rfl rfl ?_
  refine aw_aload_n (M := (M_law nm tb)) (n := 931) (i := 0) dL_law_930 rfl rfl rfl ?_
  refine aw_iload (M := (M_law nm tb)) (n := 933) dL_law_931 rfl rfl ?_
  refine aw_iconst (M := (M_law nm tb)) (n := 934) (v := 1) dL_law_933 rfl (by decide) ?_
  refine aw_iadd (M := (M_law nm tb)) (n := 935) dL_law_934 rfl ?_
  refine aw_sld (M := (M_law nm tb)) (n := 936) hG.2.1 hG.2.2.1 (hi 1 (by decide)) dL_law_935 rfl ?_
  refine aw_aload_n (M := (M_law nm tb)) (n := 937) (i := 0) dL_law_936 rfl rfl rfl ?_
  refine aw_iload (M := (M_law nm tb)) (n := 939) dL_law_937 rfl rfl ?_
  refine aw_iconst (M := (M_law nm tb)) (n := 940) (v := 2) dL_law_939 rfl (by decide) ?_
  refine aw_iadd (M := (M_law nm tb)) (n := 941) dL_law_940 rfl ?_
  refine aw_sld (M := (M_law nm tb)) (n := 942) hG.2.1 hG.2.2.1 (hi 2 (by decide)) dL_law_941 rfl ?_
  refine aw_aload_n (M := (M_law nm tb)) (n := 943) (i := 3) dL_law_942 rfl rfl rfl ?_
  refine aw_cXi (M := (M_law nm tb)) (n := 946) (As := [.ref 0, .int (gx G (i + 1).toNatClampNeg), .int (gx G (i + 2).toNatClampNeg), .ref 132]) (rest := []) lw_L_132 rfl rfl (c_L_winner hG hN hS (h := Ok.bi h)) (by decide) (Nat.le_of_ble_eq_true rfl) (by omega) (by omega) dL_law_943 rfl (fun x0 D h => ?_)
  refine aw_istore (M := (M_law nm tb)) (n := 948) (al' := [some (.ref 30000), some (.ref 0), some (.ref 88), some (.ref 132), some (.int i), some (.int x0), none]) dL_law_946 rfl rfl (Nat.le_of_ble_eq_true rfl) rfl ?_
  refine aw_aload_n (M := (M_law nm tb)) (n := 949) (i := 2) dL_law_948 rfl rfl rfl ?_
  refine aw_aload_n (M := (M_law nm tb)) (n := 950) (i := 0) dL_law_949 rfl rfl rfl ?_
  refine aw_iload (M := (M_law nm tb)) (n := 952) dL_law_950 rfl rfl ?_
  refine aw_iconst (M := (M_law nm tb)) (n := 953) (v := 1) dL_law_952 rfl (by decide) ?_
  refine aw_iadd (M := (M_law nm tb)) (n := 954) dL_law_953 rfl ?_
  refine aw_sld (M := (M_law nm tb)) (n := 955) hG.2.1 hG.2.2.1 (hi 1 (by decide)) dL_law_954 rfl ?_
  refine aw_aload_n (M := (M_law nm tb)) (n := 956) (i := 0) dL_law_955 rfl rfl rfl ?_
  refine aw_iload (M := (M_law nm tb)) (n := 958) dL_law_956 rfl rfl ?_
  refine aw_iconst (M := (M_law nm tb)) (n := 959) (v := 2) dL_law_958 rfl (by decide) ?_
  refine aw_iadd (M := (M_law nm tb)) (n := 960) dL_law_959 rfl ?_
  refine aw_sld (M := (M_law nm tb)) (n := 961) hG.2.1 hG.2.2.1 (hi 2 (by decide)) dL_law_960 rfl ?_
  refine aw_cVi (M := (M_law nm tb)) (n := 964) (As := [.int (gx G (i + 1).toNatClampNeg), .int (gx G (i + 2).toNatClampNeg)]) (rest := []) hG.1 lw_L_134 rfl rfl (sF_88 hS) (c_X12_winner hG hS (h := Ok.bi h)) (by decide) (Nat.le_of_ble_eq_true rfl) (by omega) (by omega) dL_law_961 rfl (fun x1 D h => ?_)
  refine aw_istore (M := (M_law nm tb)) (n := 966) (al' := [some (.ref 30000), some (.ref 0), some (.ref 88), some (.ref 132), some (.int i), some (.int x0), some (.int x1)]) dL_law_964 rfl rfl (Nat.le_of_ble_eq_true rfl) rfl ?_
  refine aw_aload_n (M := (M_law nm tb)) (n := 967) (i := 2) dL_law_966 rfl rfl rfl ?_
  refine aw_cVi (M := (M_law nm tb)) (n := 970) (As := []) (rest := []) hG.1 lw_L_86 rfl rfl (sF_88 hS) (c_X12_thrown hG hS (h := Ok.bi h)) (by decide) (Nat.le_of_ble_eq_true rfl) (by omega) (by omega) dL_law_967 rfl (fun x2 D h => ?_)
  refine aw_iload (M := (M_law nm tb)) (n := 972) dL_law_970 rfl rfl ?_
  refine aw_icmp_eq (M := (M_law nm tb)) (n := 975) (tgt := 977) dL_law_972 rfl (by decide) (fun c => ?_) (fun c => ?_)
  rotate_left
  · exact aZ1 (Ok.dn (Ok.iff h c) :).1
  replace h := Ok.ift h c
  refine aw_iload (M := (M_law nm tb)) (n := 979) dL_law_977 rfl rfl ?_
  refine aw_if_ne (M := (M_law nm tb)) (n := 982) (tgt := 994) dL_law_979 rfl (by decide) (fun c => ?_) (fun c => ?_)
  · exact aw_goto (M := (M_law nm tb)) (tgt := 1683) dL_law_994 (by decide) (aw_le' (al' := [some (.ref 30000), some (.ref 0), some (.ref 88), some (.ref 132), some (.int i), none, none]) (aw_wid (by omega) (by omega) (KT _ (Ok.dn (Ok.ift h c) :).2)) (by exact ⟨rfl, rfl, rfl, rfl, rfl, trivial⟩))
  replace h := Ok.iff h (fun z => z c)
  refine aw_aload_n (M := (M_law nm tb)) (n := 983) (i := 3) dL_law_982 rfl rfl rfl ?_
  refine aw_iconst (M := (M_law nm tb)) (n := 984) (v := 0) dL_law_983 rfl (by decide) ?_
  refine aw_laload (M := (M_law nm tb)) (n := 985) hG.1 (sF_132 hS) (aIn_in (i := 0) (n := 1) rfl) dL_law_984 rfl ?_
  refine aw_iload (M := (M_law nm tb)) (n := 987) dL_law_985 rfl rfl ?_
  refine aw_i2l (M := (M_law nm tb)) (n := 988) dL_law_987 rfl ?_
  refine aw_lcmp (M := (M_law nm tb)) (n := 989) dL_law_988 rfl ?_
  refine aw_if_eq (M := (M_law nm tb)) (n := 992) (tgt := 994) dL_law_989 rfl (by decide) (fun c => ?_) (fun c => ?_)
  rotate_left
  · exact aZ1 (Ok.dn (Ok.iff h c) :).1
  replace h := Ok.ift h c
  refine aw_goto (M := (M_law nm tb)) (tgt := 1683) dL_law_994 (by decide) ?_
  exact aw_le' (al' := [some (.ref 30000), some (.ref 0), some (.ref 88), some (.ref 132), some (.int i), none, none]) (aw_wid (by omega) (by omega) (KT _ (Ok.dn h :).2)) (by exact ⟨rfl, rfl, rfl, rfl, rfl, trivial⟩)
theorem lw_L_135 : aLkX "NoseTownLaw" 135 M_L_prize ∧ aNp M_L_prize = some 5 := ⟨⟨aU_5 165 rfl rfl, aU_5 166 rfl rfl, aU_1 0 rfl rfl, aU_5 167 rfl rfl, ⟨by decide +kernel, by decide +kernel⟩⟩, by decide +kernel⟩
theorem lw_L_138 : aLkV "NoseTownLaw" 138 12 M_X12_prize ∧ aNp M_X12_prize = some 3 := ⟨⟨aU_8 75 rfl rfl, aU_8 76 rfl rfl, aU_8 77 rfl rfl, aU_1 14 rfl rfl, aU_8 78 rfl rfl, ⟨TX12, 66, rfl⟩, ⟨by decide +kernel, by decide +kernel⟩⟩, by decide +kernel⟩
def f_law_14 (v1 v2 v3 v4 v5 : Int32) (D : aD) : Option (Int32 × aD) :=
  aBi (f_L_prize v1 v2 v3 D) (fun x0 D => aBi (f_X12_prize v1 v2 v3 D) (fun x1 D => aBi (f_X12_thrown D) (fun x2 D => if x2 = x0 then if x0 ≠ 0 then some (1, D) else if (lg_cmp (gJ D 132 0) x1.toInt64) = 0 then some (1, D) else some (0, D) else some (0, D))))
set_option maxRecDepth 100000 in
set_option maxHeartbeats 1000000 in
theorem law_case_14 {G : aG} (hG : gOK G) (hN : va_Nc "java/lang/IllegalArgumentException" "java/util/NoSuchElementException" (gs G)) {shp : List aSh} (hS : aShp shp) {nm : String} {tb : List (Nat × Nat × Nat × Nat)} {fr : Option Nat} {kc ks : Nat} {i : Int32} {D : aD} {Q : aQ} {P : aD → Prop} (hi : ∀ c : Nat, c < 6 → vp_in (i + Int32.ofNat c) (gL G)) (hkc : kc + 4 ≤ 601024) (hks : ks + 24 ≤ 7293034) (h : Ok2 (f_law_14 (gx G (i + 1).toNatClampNeg) (gx G (i + 2).toNatClampNeg) (gx G (i + 3).toNatClampNeg) (gx G (i + 4).toNatClampNeg) (gx G (i + 5).toNatClampNeg) D) (fun r D => r = 1 ∧ P D)) (KT : ∀ D : aD, P D → AW G (aRm 1024 601024 7293034) (M_law nm tb) fr (kc + 4) (ks + 24) 1683 [some (.ref 30000), some (.ref 0), some (.ref 88), some (.ref 132), some (.int i), none, none] [] shp D Q) : AW G (aRm 1024 601024 7293034) (M_law nm tb) fr kc ks 997 [some (.ref 30000), some (.ref 0), some (.ref 88), some (.ref 132), some (.int i), none, none] [] shp D Q := by
  unfold f_law_14 at h
  replace h := Ok2.ok h
  refine aw_aload_n (M := (M_law nm tb)) (n := 998) (i := 1) dL_law_997 rfl rfl rfl ?_
  refine aw_aload_n (M := (M_law nm tb)) (n := 999) (i := 0) dL_law_998 rfl rfl rfl ?_
  refine aw_iload (M := (M_law nm tb)) (n := 1001) dL_law_999 rfl rfl ?_
  refine aw_iconst (M := (M_law nm tb)) (n := 1002) (v := 1) dL_law_1001 rfl (by decide) ?_
  refine aw_iadd (M := (M_law nm tb)) (n := 1003) dL_law_1002 rfl ?_
  refine aw_sld (M := (M_law nm tb)) (n := 1004) hG.2.1 hG.2.2.1 (hi 1 (by decide)) dL_law_1003 rfl ?_
  refine aw_aload_n (M := (M_law nm tb)) (n := 1005) (i := 0) dL_law_1004 rfl rfl rfl ?_
  refine aw_iload (M := (M_law nm tb)) (n := 1007) dL_law_1005 rfl rfl ?_
  refine aw_iconst (M := (M_law nm tb)) (n := 1008) (v := 2) dL_law_1007 rfl (by decide) ?_
  refine aw_iadd (M := (M_law nm tb)) (n := 1009) dL_law_1008 rfl ?_
  refine aw_sld (M := (M_law nm tb)) (n := 1010) hG.2.1 hG.2.2.1 (hi 2 (by decide)) dL_law_1009 rfl ?_
  refine aw_aload_n (M := (M_law nm tb)) (n := 1011) (i := 0) dL_law_1010 rfl rfl rfl ?_
  refine aw_iload (M := (M_law nm tb)) (n := 1013) dL_law_1011 rfl rfl ?_
  refine aw_iconst (M := (M_law nm tb)) (n := 1014) (v := 3) dL_law_1013 rfl (by decide) ?_
  refine aw_iadd (M := (M_law nm tb)) (n := 1015) dL_law_1014 rfl ?_
  refine aw_sld (M := (M_law nm tb)) (n := 1016) hG.2.1 hG.2.2.1 (hi 3 (by decide)) dL_law_1015 rfl ?_
  refine aw_aload_n (M := (M_law nm tb)) (n := 1017) (i := 3) dL_law_1016 rfl rfl rfl ?_
  refine aw_cXi (M := (M_law nm tb)) (n := 1020) (As := [.ref 0, .int (gx G (i + 1).toNatClampNeg), .int (gx G (i + 2).toNatClampNeg), .int (gx G (i + 3).toNatClampNeg), .ref 132]) (rest := []) lw_L_135 rfl rfl (c_L_prize hG hN hS (h := Ok.bi h)) (by decide) (Nat.le_of_ble_eq_true rfl) (by omega) (by omega) dL_law_1017 rfl (fun x0 D h => ?_)
  refine aw_istore (M := (M_law nm tb)) (n := 1022) (al' := [some (.ref 30000), some (.ref 0), some (.ref 88), some (.ref 132), some (.int i), some (.int x0), none]) dL_law_1020 rfl rfl (Nat.le_of_ble_eq_true rfl) rfl ?_
  refine aw_aload_n (M := (M_law nm tb)) (n := 1023) (i := 2) dL_law_1022 rfl rfl rfl ?_
  refine aw_aload_n (M := (M_law nm tb)) (n := 1024) (i := 0) dL_law_1023 rfl rfl rfl ?_
  refine aw_iload (M := (M_law nm tb)) (n := 1026) dL_law_1024 rfl rfl ?_
  refine aw_iconst (M := (M_law nm tb)) (n := 1027) (v := 1) dL_law_1026 rfl (by decide) ?_
  refine aw_iadd (M := (M_law nm tb)) (n := 1028) dL_law_1027 rfl ?_
  refine aw_sld (M := (M_law nm tb)) (n := 1029) hG.2.1 hG.2.2.1 (hi 1 (by decide)) dL_law_1028 rfl ?_
  refine aw_aload_n (M := (M_law nm tb)) (n := 1030) (i := 0) dL_law_1029 rfl rfl rfl ?_
  refine aw_iload (M := (M_law nm tb)) (n := 1032) dL_law_1030 rfl rfl ?_
  refine aw_iconst (M := (M_law nm tb)) (n := 1033) (v := 2) dL_law_1032 rfl (by decide) ?_
  refine aw_iadd (M := (M_law nm tb)) (n := 1034) dL_law_1033 rfl ?_
  refine aw_sld (M := (M_law nm tb)) (n := 1035) hG.2.1 hG.2.2.1 (hi 2 (by decide)) dL_law_1034 rfl ?_
  refine aw_aload_n (M := (M_law nm tb)) (n := 1036) (i := 0) dL_law_1035 rfl rfl rfl ?_
  refine aw_iload (M := (M_law nm tb)) (n := 1038) dL_law_1036 rfl rfl ?_
  refine aw_iconst (M := (M_law nm tb)) (n := 1039) (v := 3) dL_law_1038 rfl (by decide) ?_
  refine aw_iadd (M := (M_law nm tb)) (n := 1040) dL_law_1039 rfl ?_
  refine aw_sld (M := (M_law nm tb)) (n := 1041) hG.2.1 hG.2.2.1 (hi 3 (by decide)) dL_law_1040 rfl ?_
  refine aw_cVi (M := (M_law nm tb)) (n := 1044) (As := [.int (gx G (i + 1).toNatClampNeg), .int (gx G (i + 2).toNatClampNeg), .int (gx G (i + 3).toNatClampNeg)]) (rest := []) hG.1 lw_L_138 rfl rfl (sF_88 hS) (c_X12_prize hG hS (h := Ok.bi h)) (by decide) (Nat.le_of_ble_eq_true rfl) (by omega) (by omega) dL_law_1041 rfl (fun x1 D h => ?_)
  refine aw_istore (M := (M_law nm tb)) (n := 1046) (al' := [some (.ref 30000), some (.ref 0), some (.ref 88), some (.ref 132), some (.int i), some (.int x0), some (.int x1)]) dL_law_1044 rfl rfl (Nat.le_of_ble_eq_true rfl) rfl ?_
  refine aw_aload_n (M := (M_law nm tb)) (n := 1047) (i := 2) dL_law_1046 rfl rfl rfl ?_
  refine aw_cVi (M := (M_law nm tb)) (n := 1050) (As := []) (rest := []) hG.1 lw_L_86 rfl rfl (sF_88 hS) (c_X12_thrown hG hS (h := Ok.bi h)) (by decide) (Nat.le_of_ble_eq_true rfl) (by omega) (by omega) dL_law_1047 rfl (fun x2 D h => ?_)
  refine aw_iload (M := (M_law nm tb)) (n := 1052) dL_law_1050 rfl rfl ?_
  refine aw_icmp_eq (M := (M_law nm tb)) (n := 1055) (tgt := 1057) dL_law_1052 rfl (by decide) (fun c => ?_) (fun c => ?_)
  rotate_left
  · exact aZ1 (Ok.dn (Ok.iff h c) :).1
  replace h := Ok.ift h c
  refine aw_iload (M := (M_law nm tb)) (n := 1059) dL_law_1057 rfl rfl ?_
  refine aw_if_ne (M := (M_law nm tb)) (n := 1062) (tgt := 1074) dL_law_1059 rfl (by decide) (fun c => ?_) (fun c => ?_)
  · exact aw_goto (M := (M_law nm tb)) (tgt := 1683) dL_law_1074 (by decide) (aw_le' (al' := [some (.ref 30000), some (.ref 0), some (.ref 88), some (.ref 132), some (.int i), none, none]) (aw_wid (by omega) (by omega) (KT _ (Ok.dn (Ok.ift h c) :).2)) (by exact ⟨rfl, rfl, rfl, rfl, rfl, trivial⟩))
  replace h := Ok.iff h (fun z => z c)
  refine aw_aload_n (M := (M_law nm tb)) (n := 1063) (i := 3) dL_law_1062 rfl rfl rfl ?_
  refine aw_iconst (M := (M_law nm tb)) (n := 1064) (v := 0) dL_law_1063 rfl (by decide) ?_
  refine aw_laload (M := (M_law nm tb)) (n := 1065) hG.1 (sF_132 hS) (aIn_in (i := 0) (n := 1) rfl) dL_law_1064 rfl ?_
  refine aw_iload (M := (M_law nm tb)) (n := 1067) dL_law_1065 rfl rfl ?_
  refine aw_i2l (M := (M_law nm tb)) (n := 1068) dL_law_1067 rfl ?_
  refine aw_lcmp (M := (M_law nm tb)) (n := 1069) dL_law_1068 rfl ?_
  refine aw_if_eq (M := (M_law nm tb)) (n := 1072) (tgt := 1074) dL_law_1069 rfl (by decide) (fun c => ?_) (fun c => ?_)
  rotate_left
  · exact aZ1 (Ok.dn (Ok.iff h c) :).1
  replace h := Ok.ift h c
  refine aw_goto (M := (M_law nm tb)) (tgt := 1683) dL_law_1074 (by decide) ?_
  exact aw_le' (al' := [some (.ref 30000), some (.ref 0), some (.ref 88), some (.ref 132), some (.int i), none, none]) (aw_wid (by omega) (by omega) (KT _ (Ok.dn h :).2)) (by exact ⟨rfl, rfl, rfl, rfl, rfl, trivial⟩)
theorem lw_L_139 : aLkX "NoseTownLaw" 139 M_L_odds ∧ aNp M_L_odds = some 4 := ⟨⟨aU_5 178 rfl rfl, aU_5 179 rfl rfl, aU_1 0 rfl rfl, aU_5 180 rfl rfl, ⟨by decide +kernel, by decide +kernel⟩⟩, by decide +kernel⟩
theorem lw_L_141 : aLkV "NoseTownLaw" 141 12 M_X12_odds ∧ aNp M_X12_odds = some 2 := ⟨⟨aU_8 79 rfl rfl, aU_8 80 rfl rfl, aU_8 81 rfl rfl, aU_1 14 rfl rfl, aU_8 82 rfl rfl, ⟨TX12, 66, rfl⟩, ⟨by decide +kernel, by decide +kernel⟩⟩, by decide +kernel⟩
def f_law_15 (v1 v2 v3 v4 v5 : Int32) (D : aD) : Option (Int32 × aD) :=
  aBi (f_L_odds v1 v2 D) (fun x0 D => aBi (f_X12_odds v1 v2 D) (fun x1 D => aBi (f_X12_thrown D) (fun x2 D => if x2 = x0 then if x0 ≠ 0 then some (1, D) else if (lg_cmp (gJ D 132 0) x1.toInt64) = 0 then some (1, D) else some (0, D) else some (0, D))))
set_option maxRecDepth 100000 in
set_option maxHeartbeats 1000000 in
theorem law_case_15 {G : aG} (hG : gOK G) (hN : va_Nc "java/lang/IllegalArgumentException" "java/util/NoSuchElementException" (gs G)) {shp : List aSh} (hS : aShp shp) {nm : String} {tb : List (Nat × Nat × Nat × Nat)} {fr : Option Nat} {kc ks : Nat} {i : Int32} {D : aD} {Q : aQ} {P : aD → Prop} (hi : ∀ c : Nat, c < 6 → vp_in (i + Int32.ofNat c) (gL G)) (hkc : kc + 4 ≤ 601024) (hks : ks + 24 ≤ 7293034) (h : Ok2 (f_law_15 (gx G (i + 1).toNatClampNeg) (gx G (i + 2).toNatClampNeg) (gx G (i + 3).toNatClampNeg) (gx G (i + 4).toNatClampNeg) (gx G (i + 5).toNatClampNeg) D) (fun r D => r = 1 ∧ P D)) (KT : ∀ D : aD, P D → AW G (aRm 1024 601024 7293034) (M_law nm tb) fr (kc + 4) (ks + 24) 1683 [some (.ref 30000), some (.ref 0), some (.ref 88), some (.ref 132), some (.int i), none, none] [] shp D Q) : AW G (aRm 1024 601024 7293034) (M_law nm tb) fr kc ks 1077 [some (.ref 30000), some (.ref 0), some (.ref 88), some (.ref 132), some (.int i), none, none] [] shp D Q := by
  unfold f_law_15 at h
  replace h := Ok2.ok h
  refine aw_aload_n (M := (M_law nm tb)) (n := 1078) (i := 1) dL_law_1077 rfl rfl rfl ?_
  refine aw_aload_n (M := (M_law nm tb)) (n := 1079) (i := 0) dL_law_1078 rfl rfl rfl ?_
  refine aw_iload (M := (M_law nm tb)) (n := 1081) dL_law_1079 rfl rfl ?_
  refine aw_iconst (M := (M_law nm tb)) (n := 1082) (v := 1) dL_law_1081 rfl (by decide) ?_
  refine aw_iadd (M := (M_law nm tb)) (n := 1083) dL_law_1082 rfl ?_
  refine aw_sld (M := (M_law nm tb)) (n := 1084) hG.2.1 hG.2.2.1 (hi 1 (by decide)) dL_law_1083 rfl ?_
  refine aw_aload_n (M := (M_law nm tb)) (n := 1085) (i := 0) dL_law_1084 rfl rfl rfl ?_
  refine aw_iload (M := (M_law nm tb)) (n := 1087) dL_law_1085 rfl rfl ?_
  refine aw_iconst (M := (M_law nm tb)) (n := 1088) (v := 2) dL_law_1087 rfl (by decide) ?_
  refine aw_iadd (M := (M_law nm tb)) (n := 1089) dL_law_1088 rfl ?_
  refine aw_sld (M := (M_law nm tb)) (n := 1090) hG.2.1 hG.2.2.1 (hi 2 (by decide)) dL_law_1089 rfl ?_
  refine aw_aload_n (M := (M_law nm tb)) (n := 1091) (i := 3) dL_law_1090 rfl rfl rfl ?_
  refine aw_cXi (M := (M_law nm tb)) (n := 1094) (As := [.ref 0, .int (gx G (i + 1).toNatClampNeg), .int (gx G (i + 2).toNatClampNeg), .ref 132]) (rest := []) lw_L_139 rfl rfl (c_L_odds hG hN hS (h := Ok.bi h)) (by decide) (Nat.le_of_ble_eq_true rfl) (by omega) (by omega) dL_law_1091 rfl (fun x0 D h => ?_)
  refine aw_istore (M := (M_law nm tb)) (n := 1096) (al' := [some (.ref 30000), some (.ref 0), some (.ref 88), some (.ref 132), some (.int i), some (.int x0), none]) dL_law_1094 rfl rfl (Nat.le_of_ble_eq_true rfl) rfl ?_
  refine aw_aload_n (M := (M_law nm tb)) (n := 1097) (i := 2) dL_law_1096 rfl rfl rfl ?_
  refine aw_aload_n (M := (M_law nm tb)) (n := 1098) (i := 0) dL_law_1097 rfl rfl rfl ?_
  refine aw_iload (M := (M_law nm tb)) (n := 1100) dL_law_1098 rfl rfl ?_
  refine aw_iconst (M := (M_law nm tb)) (n := 1101) (v := 1) dL_law_1100 rfl (by decide) ?_
  refine aw_iadd (M := (M_law nm tb)) (n := 1102) dL_law_1101 rfl ?_
  refine aw_sld (M := (M_law nm tb)) (n := 1103) hG.2.1 hG.2.2.1 (hi 1 (by decide)) dL_law_1102 rfl ?_
  refine aw_aload_n (M := (M_law nm tb)) (n := 1104) (i := 0) dL_law_1103 rfl rfl rfl ?_
  refine aw_iload (M := (M_law nm tb)) (n := 1106) dL_law_1104 rfl rfl ?_
  refine aw_iconst (M := (M_law nm tb)) (n := 1107) (v := 2) dL_law_1106 rfl (by decide) ?_
  refine aw_iadd (M := (M_law nm tb)) (n := 1108) dL_law_1107 rfl ?_
  refine aw_sld (M := (M_law nm tb)) (n := 1109) hG.2.1 hG.2.2.1 (hi 2 (by decide)) dL_law_1108 rfl ?_
  refine aw_cVi (M := (M_law nm tb)) (n := 1112) (As := [.int (gx G (i + 1).toNatClampNeg), .int (gx G (i + 2).toNatClampNeg)]) (rest := []) hG.1 lw_L_141 rfl rfl (sF_88 hS) (c_X12_odds hG hS (h := Ok.bi h)) (by decide) (Nat.le_of_ble_eq_true rfl) (by omega) (by omega) dL_law_1109 rfl (fun x1 D h => ?_)
  refine aw_istore (M := (M_law nm tb)) (n := 1114) (al' := [some (.ref 30000), some (.ref 0), some (.ref 88), some (.ref 132), some (.int i), some (.int x0), some (.int x1)]) dL_law_1112 rfl rfl (Nat.le_of_ble_eq_true rfl) rfl ?_
  refine aw_aload_n (M := (M_law nm tb)) (n := 1115) (i := 2) dL_law_1114 rfl rfl rfl ?_
  refine aw_cVi (M := (M_law nm tb)) (n := 1118) (As := []) (rest := []) hG.1 lw_L_86 rfl rfl (sF_88 hS) (c_X12_thrown hG hS (h := Ok.bi h)) (by decide) (Nat.le_of_ble_eq_true rfl) (by omega) (by omega) dL_law_1115 rfl (fun x2 D h => ?_)
  refine aw_iload (M := (M_law nm tb)) (n := 1120) dL_law_1118 rfl rfl ?_
  refine aw_icmp_eq (M := (M_law nm tb)) (n := 1123) (tgt := 1125) dL_law_1120 rfl (by decide) (fun c => ?_) (fun c => ?_)
  rotate_left
  · exact aZ1 (Ok.dn (Ok.iff h c) :).1
  replace h := Ok.ift h c
  refine aw_iload (M := (M_law nm tb)) (n := 1127) dL_law_1125 rfl rfl ?_
  refine aw_if_ne (M := (M_law nm tb)) (n := 1130) (tgt := 1142) dL_law_1127 rfl (by decide) (fun c => ?_) (fun c => ?_)
  · exact aw_goto (M := (M_law nm tb)) (tgt := 1683) dL_law_1142 (by decide) (aw_le' (al' := [some (.ref 30000), some (.ref 0), some (.ref 88), some (.ref 132), some (.int i), none, none]) (aw_wid (by omega) (by omega) (KT _ (Ok.dn (Ok.ift h c) :).2)) (by exact ⟨rfl, rfl, rfl, rfl, rfl, trivial⟩))
  replace h := Ok.iff h (fun z => z c)
  refine aw_aload_n (M := (M_law nm tb)) (n := 1131) (i := 3) dL_law_1130 rfl rfl rfl ?_
  refine aw_iconst (M := (M_law nm tb)) (n := 1132) (v := 0) dL_law_1131 rfl (by decide) ?_
  refine aw_laload (M := (M_law nm tb)) (n := 1133) hG.1 (sF_132 hS) (aIn_in (i := 0) (n := 1) rfl) dL_law_1132 rfl ?_
  refine aw_iload (M := (M_law nm tb)) (n := 1135) dL_law_1133 rfl rfl ?_
  refine aw_i2l (M := (M_law nm tb)) (n := 1136) dL_law_1135 rfl ?_
  refine aw_lcmp (M := (M_law nm tb)) (n := 1137) dL_law_1136 rfl ?_
  refine aw_if_eq (M := (M_law nm tb)) (n := 1140) (tgt := 1142) dL_law_1137 rfl (by decide) (fun c => ?_) (fun c => ?_)
  rotate_left
  · exact aZ1 (Ok.dn (Ok.iff h c) :).1
  replace h := Ok.ift h c
  refine aw_goto (M := (M_law nm tb)) (tgt := 1683) dL_law_1142 (by decide) ?_
  exact aw_le' (al' := [some (.ref 30000), some (.ref 0), some (.ref 88), some (.ref 132), some (.int i), none, none]) (aw_wid (by omega) (by omega) (KT _ (Ok.dn h :).2)) (by exact ⟨rfl, rfl, rfl, rfl, rfl, trivial⟩)
theorem lw_L_142 : aLkX "NoseTownLaw" 142 M_L_best ∧ aNp M_L_best = some 4 := ⟨⟨aU_5 190 rfl rfl, aU_5 191 rfl rfl, aU_1 0 rfl rfl, aU_5 192 rfl rfl, ⟨by decide +kernel, by decide +kernel⟩⟩, by decide +kernel⟩
theorem lw_L_144 : aLkV "NoseTownLaw" 144 12 M_X12_best ∧ aNp M_X12_best = some 2 := ⟨⟨aU_8 94 rfl rfl, aU_8 95 rfl rfl, aU_8 96 rfl rfl, aU_1 14 rfl rfl, aU_8 97 rfl rfl, ⟨TX12, 66, rfl⟩, ⟨by decide +kernel, by decide +kernel⟩⟩, by decide +kernel⟩
def f_law_16 (v1 v2 v3 v4 v5 : Int32) (D : aD) : Option (Int32 × aD) :=
  aBi (f_L_best v1 v2 D) (fun x0 D => aBi (f_X12_best v1 v2 D) (fun x1 D => aBi (f_X12_thrown D) (fun x2 D => if x2 = x0 then if x0 ≠ 0 then some (1, D) else if (lg_cmp (gJ D 132 0) x1.toInt64) = 0 then some (1, D) else some (0, D) else some (0, D))))
set_option maxRecDepth 100000 in
set_option maxHeartbeats 1000000 in
theorem law_case_16 {G : aG} (hG : gOK G) (hN : va_Nc "java/lang/IllegalArgumentException" "java/util/NoSuchElementException" (gs G)) {shp : List aSh} (hS : aShp shp) {nm : String} {tb : List (Nat × Nat × Nat × Nat)} {fr : Option Nat} {kc ks : Nat} {i : Int32} {D : aD} {Q : aQ} {P : aD → Prop} (hi : ∀ c : Nat, c < 6 → vp_in (i + Int32.ofNat c) (gL G)) (hkc : kc + 4 ≤ 601024) (hks : ks + 24 ≤ 7293034) (h : Ok2 (f_law_16 (gx G (i + 1).toNatClampNeg) (gx G (i + 2).toNatClampNeg) (gx G (i + 3).toNatClampNeg) (gx G (i + 4).toNatClampNeg) (gx G (i + 5).toNatClampNeg) D) (fun r D => r = 1 ∧ P D)) (KT : ∀ D : aD, P D → AW G (aRm 1024 601024 7293034) (M_law nm tb) fr (kc + 4) (ks + 24) 1683 [some (.ref 30000), some (.ref 0), some (.ref 88), some (.ref 132), some (.int i), none, none] [] shp D Q) : AW G (aRm 1024 601024 7293034) (M_law nm tb) fr kc ks 1145 [some (.ref 30000), some (.ref 0), some (.ref 88), some (.ref 132), some (.int i), none, none] [] shp D Q := by
  unfold f_law_16 at h
  replace h := Ok2.ok h
  refine aw_aload_n (M := (M_law nm tb)) (n := 1146) (i := 1) dL_law_1145 rfl rfl rfl ?_
  refine aw_aload_n (M := (M_law nm tb)) (n := 1147) (i := 0) dL_law_1146 rfl rfl rfl ?_
  refine aw_iload (M := (M_law nm tb)) (n := 1149) dL_law_1147 rfl rfl ?_
  refine aw_iconst (M := (M_law nm tb)) (n := 1150) (v := 1) dL_law_1149 rfl (by decide) ?_
  refine aw_iadd (M := (M_law nm tb)) (n := 1151) dL_law_1150 rfl ?_
  refine aw_sld (M := (M_law nm tb)) (n := 1152) hG.2.1 hG.2.2.1 (hi 1 (by decide)) dL_law_1151 rfl ?_
  refine aw_aload_n (M := (M_law nm tb)) (n := 1153) (i := 0) dL_law_1152 rfl rfl rfl ?_
  refine aw_iload (M := (M_law nm tb)) (n := 1155) dL_law_1153 rfl rfl ?_
  refine aw_iconst (M := (M_law nm tb)) (n := 1156) (v := 2) dL_law_1155 rfl (by decide) ?_
  refine aw_iadd (M := (M_law nm tb)) (n := 1157) dL_law_1156 rfl ?_
  refine aw_sld (M := (M_law nm tb)) (n := 1158) hG.2.1 hG.2.2.1 (hi 2 (by decide)) dL_law_1157 rfl ?_
  refine aw_aload_n (M := (M_law nm tb)) (n := 1159) (i := 3) dL_law_1158 rfl rfl rfl ?_
  refine aw_cXi (M := (M_law nm tb)) (n := 1162) (As := [.ref 0, .int (gx G (i + 1).toNatClampNeg), .int (gx G (i + 2).toNatClampNeg), .ref 132]) (rest := []) lw_L_142 rfl rfl (c_L_best hG hN hS (h := Ok.bi h)) (by decide) (Nat.le_of_ble_eq_true rfl) (by omega) (by omega) dL_law_1159 rfl (fun x0 D h => ?_)
  refine aw_istore (M := (M_law nm tb)) (n := 1164) (al' := [some (.ref 30000), some (.ref 0), some (.ref 88), some (.ref 132), some (.int i), some (.int x0), none]) dL_law_1162 rfl rfl (Nat.le_of_ble_eq_true rfl) rfl ?_
  refine aw_aload_n (M := (M_law nm tb)) (n := 1165) (i := 2) dL_law_1164 rfl rfl rfl ?_
  refine aw_aload_n (M := (M_law nm tb)) (n := 1166) (i := 0) dL_law_1165 rfl rfl rfl ?_
  refine aw_iload (M := (M_law nm tb)) (n := 1168) dL_law_1166 rfl rfl ?_
  refine aw_iconst (M := (M_law nm tb)) (n := 1169) (v := 1) dL_law_1168 rfl (by decide) ?_
  refine aw_iadd (M := (M_law nm tb)) (n := 1170) dL_law_1169 rfl ?_
  refine aw_sld (M := (M_law nm tb)) (n := 1171) hG.2.1 hG.2.2.1 (hi 1 (by decide)) dL_law_1170 rfl ?_
  refine aw_aload_n (M := (M_law nm tb)) (n := 1172) (i := 0) dL_law_1171 rfl rfl rfl ?_
  refine aw_iload (M := (M_law nm tb)) (n := 1174) dL_law_1172 rfl rfl ?_
  refine aw_iconst (M := (M_law nm tb)) (n := 1175) (v := 2) dL_law_1174 rfl (by decide) ?_
  refine aw_iadd (M := (M_law nm tb)) (n := 1176) dL_law_1175 rfl ?_
  refine aw_sld (M := (M_law nm tb)) (n := 1177) hG.2.1 hG.2.2.1 (hi 2 (by decide)) dL_law_1176 rfl ?_
  refine aw_cVi (M := (M_law nm tb)) (n := 1180) (As := [.int (gx G (i + 1).toNatClampNeg), .int (gx G (i + 2).toNatClampNeg)]) (rest := []) hG.1 lw_L_144 rfl rfl (sF_88 hS) (c_X12_best hG hS (h := Ok.bi h)) (by decide) (Nat.le_of_ble_eq_true rfl) (by omega) (by omega) dL_law_1177 rfl (fun x1 D h => ?_)
  refine aw_istore (M := (M_law nm tb)) (n := 1182) (al' := [some (.ref 30000), some (.ref 0), some (.ref 88), some (.ref 132), some (.int i), some (.int x0), some (.int x1)]) dL_law_1180 rfl rfl (Nat.le_of_ble_eq_true rfl) rfl ?_
  refine aw_aload_n (M := (M_law nm tb)) (n := 1183) (i := 2) dL_law_1182 rfl rfl rfl ?_
  refine aw_cVi (M := (M_law nm tb)) (n := 1186) (As := []) (rest := []) hG.1 lw_L_86 rfl rfl (sF_88 hS) (c_X12_thrown hG hS (h := Ok.bi h)) (by decide) (Nat.le_of_ble_eq_true rfl) (by omega) (by omega) dL_law_1183 rfl (fun x2 D h => ?_)
  refine aw_iload (M := (M_law nm tb)) (n := 1188) dL_law_1186 rfl rfl ?_
  refine aw_icmp_eq (M := (M_law nm tb)) (n := 1191) (tgt := 1193) dL_law_1188 rfl (by decide) (fun c => ?_) (fun c => ?_)
  rotate_left
  · exact aZ1 (Ok.dn (Ok.iff h c) :).1
  replace h := Ok.ift h c
  refine aw_iload (M := (M_law nm tb)) (n := 1195) dL_law_1193 rfl rfl ?_
  refine aw_if_ne (M := (M_law nm tb)) (n := 1198) (tgt := 1210) dL_law_1195 rfl (by decide) (fun c => ?_) (fun c => ?_)
  · exact aw_goto (M := (M_law nm tb)) (tgt := 1683) dL_law_1210 (by decide) (aw_le' (al' := [some (.ref 30000), some (.ref 0), some (.ref 88), some (.ref 132), some (.int i), none, none]) (aw_wid (by omega) (by omega) (KT _ (Ok.dn (Ok.ift h c) :).2)) (by exact ⟨rfl, rfl, rfl, rfl, rfl, trivial⟩))
  replace h := Ok.iff h (fun z => z c)
  refine aw_aload_n (M := (M_law nm tb)) (n := 1199) (i := 3) dL_law_1198 rfl rfl rfl ?_
  refine aw_iconst (M := (M_law nm tb)) (n := 1200) (v := 0) dL_law_1199 rfl (by decide) ?_
  refine aw_laload (M := (M_law nm tb)) (n := 1201) hG.1 (sF_132 hS) (aIn_in (i := 0) (n := 1) rfl) dL_law_1200 rfl ?_
  refine aw_iload (M := (M_law nm tb)) (n := 1203) dL_law_1201 rfl rfl ?_
  refine aw_i2l (M := (M_law nm tb)) (n := 1204) dL_law_1203 rfl ?_
  refine aw_lcmp (M := (M_law nm tb)) (n := 1205) dL_law_1204 rfl ?_
  refine aw_if_eq (M := (M_law nm tb)) (n := 1208) (tgt := 1210) dL_law_1205 rfl (by decide) (fun c => ?_) (fun c => ?_)
  rotate_left
  · exact aZ1 (Ok.dn (Ok.iff h c) :).1
  replace h := Ok.ift h c
  refine aw_goto (M := (M_law nm tb)) (tgt := 1683) dL_law_1210 (by decide) ?_
  exact aw_le' (al' := [some (.ref 30000), some (.ref 0), some (.ref 88), some (.ref 132), some (.int i), none, none]) (aw_wid (by omega) (by omega) (KT _ (Ok.dn h :).2)) (by exact ⟨rfl, rfl, rfl, rfl, rfl, trivial⟩)
theorem lw_L_145 : aLkV "NoseTownLaw" 145 11 M_X11_rest ∧ aNp M_X11_rest = some 0 := ⟨⟨aU_3 127 rfl rfl, aU_3 128 rfl rfl, aU_3 129 rfl rfl, aU_1 1 rfl rfl, aU_3 130 rfl rfl, ⟨TX11, 14, rfl⟩, ⟨by decide +kernel, by decide +kernel⟩⟩, by decide +kernel⟩
theorem lw_L_148 : aLkV "NoseTownLaw" 148 12 M_X12_rest ∧ aNp M_X12_rest = some 0 := ⟨⟨aU_8 110 rfl rfl, aU_8 111 rfl rfl, aU_8 112 rfl rfl, aU_1 14 rfl rfl, aU_8 113 rfl rfl, ⟨TX12, 66, rfl⟩, ⟨by decide +kernel, by decide +kernel⟩⟩, by decide +kernel⟩
def f_law_17 (v1 v2 v3 v4 v5 : Int32) (D : aD) : Option (Int32 × aD) :=
  aBi (f_X11_rest D) (fun x0 D => aBi (f_X12_rest D) (fun x1 D => if x0 = x1 then some (1, D) else some (0, D)))
set_option maxRecDepth 100000 in
set_option maxHeartbeats 1000000 in
theorem law_case_17 {G : aG} (hG : gOK G) (hN : va_Nc "java/lang/IllegalArgumentException" "java/util/NoSuchElementException" (gs G)) {shp : List aSh} (hS : aShp shp) {nm : String} {tb : List (Nat × Nat × Nat × Nat)} {fr : Option Nat} {kc ks : Nat} {i : Int32} {D : aD} {Q : aQ} {P : aD → Prop} (hi : ∀ c : Nat, c < 6 → vp_in (i + Int32.ofNat c) (gL G)) (hkc : kc + 4 ≤ 601024) (hks : ks + 24 ≤ 7293034) (h : Ok2 (f_law_17 (gx G (i + 1).toNatClampNeg) (gx G (i + 2).toNatClampNeg) (gx G (i + 3).toNatClampNeg) (gx G (i + 4).toNatClampNeg) (gx G (i + 5).toNatClampNeg) D) (fun r D => r = 1 ∧ P D)) (KT : ∀ D : aD, P D → AW G (aRm 1024 601024 7293034) (M_law nm tb) fr (kc + 4) (ks + 24) 1683 [some (.ref 30000), some (.ref 0), some (.ref 88), some (.ref 132), some (.int i), none, none] [] shp D Q) : AW G (aRm 1024 601024 7293034) (M_law nm tb) fr kc ks 1213 [some (.ref 30000), some (.ref 0), some (.ref 88), some (.ref 132), some (.int i), none, none] [] shp D Q := by
  unfold f_law_17 at h
  replace h := Ok2.ok h
  refine aw_aload_n (M := (M_law nm tb)) (n := 1214) (i := 1) dL_law_1213 rfl rfl rfl ?_
  refine aw_cVi (M := (M_law nm tb)) (n := 1217) (As := []) (rest := []) hG.1 lw_L_145 rfl rfl (sF_0 hS) (c_X11_rest hG hS (h := Ok.bi h)) (by decide) (Nat.le_of_ble_eq_true rfl) (by omega) (by omega) dL_law_1214 rfl (fun x0 D h => ?_)
  refine aw_aload_n (M := (M_law nm tb)) (n := 1218) (i := 2) dL_law_1217 rfl rfl rfl ?_
  refine aw_cVi (M := (M_law nm tb)) (n := 1221) (As := []) (rest := [.int x0]) hG.1 lw_L_148 rfl rfl (sF_88 hS) (c_X12_rest hG hS (h := Ok.bi h)) (by decide) (Nat.le_of_ble_eq_true rfl) (by omega) (by omega) dL_law_1218 rfl (fun x1 D h => ?_)
  refine aw_icmp_eq (M := (M_law nm tb)) (n := 1224) (tgt := 1683) dL_law_1221 rfl (by decide) (fun c => ?_) (fun c => ?_)
  rotate_left
  · exact aZ1 (Ok.dn (Ok.iff h c) :).1
  replace h := Ok.ift h c
  exact aw_le' (al' := [some (.ref 30000), some (.ref 0), some (.ref 88), some (.ref 132), some (.int i), none, none]) (aw_wid (by omega) (by omega) (KT _ (Ok.dn h :).2)) (by exact ⟨rfl, rfl, rfl, rfl, rfl, trivial⟩)
theorem lw_L_149 : aLkX "NoseTownLaw" 149 M_L_grow ∧ aNp M_L_grow = some 4 := ⟨⟨aU_5 202 rfl rfl, aU_5 203 rfl rfl, aU_1 0 rfl rfl, aU_5 204 rfl rfl, ⟨by decide +kernel, by decide +kernel⟩⟩, by decide +kernel⟩
theorem lw_L_151 : aLkV "NoseTownLaw" 151 12 M_X12_grow ∧ aNp M_X12_grow = some 2 := ⟨⟨aU_8 121 rfl rfl, aU_8 122 rfl rfl, aU_8 123 rfl rfl, aU_1 14 rfl rfl, aU_8 124 rfl rfl, ⟨TX12, 66, rfl⟩, ⟨by decide +kernel, by decide +kernel⟩⟩, by decide +kernel⟩
def f_law_18 (v1 v2 v3 v4 v5 : Int32) (D : aD) : Option (Int32 × aD) :=
  aBi (f_L_grow v1 v2 D) (fun x0 D => aBi (f_X12_grow v1 v2 D) (fun x1 D => aBi (f_X12_thrown D) (fun x2 D => if x2 = x0 then if x0 ≠ 0 then some (1, D) else if (lg_cmp (gJ D 132 0) x1.toInt64) = 0 then some (1, D) else some (0, D) else some (0, D))))
set_option maxRecDepth 100000 in
set_option maxHeartbeats 1000000 in
theorem law_case_18 {G : aG} (hG : gOK G) (hN : va_Nc "java/lang/IllegalArgumentException" "java/util/NoSuchElementException" (gs G)) {shp : List aSh} (hS : aShp shp) {nm : String} {tb : List (Nat × Nat × Nat × Nat)} {fr : Option Nat} {kc ks : Nat} {i : Int32} {D : aD} {Q : aQ} {P : aD → Prop} (hi : ∀ c : Nat, c < 6 → vp_in (i + Int32.ofNat c) (gL G)) (hkc : kc + 4 ≤ 601024) (hks : ks + 24 ≤ 7293034) (h : Ok2 (f_law_18 (gx G (i + 1).toNatClampNeg) (gx G (i + 2).toNatClampNeg) (gx G (i + 3).toNatClampNeg) (gx G (i + 4).toNatClampNeg) (gx G (i + 5).toNatClampNeg) D) (fun r D => r = 1 ∧ P D)) (KT : ∀ D : aD, P D → AW G (aRm 1024 601024 7293034) (M_law nm tb) fr (kc + 4) (ks + 24) 1683 [some (.ref 30000), some (.ref 0), some (.ref 88), some (.ref 132), some (.int i), none, none] [] shp D Q) : AW G (aRm 1024 601024 7293034) (M_law nm tb) fr kc ks 1226 [some (.ref 30000), some (.ref 0), some (.ref 88), some (.ref 132), some (.int i), none, none] [] shp D Q := by
  unfold f_law_18 at h
  replace h := Ok2.ok h
  refine aw_aload_n (M := (M_law nm tb)) (n := 1227) (i := 1) dL_law_1226 rfl rfl rfl ?_
  refine aw_aload_n (M := (M_law nm tb)) (n := 1228) (i := 0) dL_law_1227 rfl rfl rfl ?_
  refine aw_iload (M := (M_law nm tb)) (n := 1230) dL_law_1228 rfl rfl ?_
  refine aw_iconst (M := (M_law nm tb)) (n := 1231) (v := 1) dL_law_1230 rfl (by decide) ?_
  refine aw_iadd (M := (M_law nm tb)) (n := 1232) dL_law_1231 rfl ?_
  refine aw_sld (M := (M_law nm tb)) (n := 1233) hG.2.1 hG.2.2.1 (hi 1 (by decide)) dL_law_1232 rfl ?_
  refine aw_aload_n (M := (M_law nm tb)) (n := 1234) (i := 0) dL_law_1233 rfl rfl rfl ?_
  refine aw_iload (M := (M_law nm tb)) (n := 1236) dL_law_1234 rfl rfl ?_
  refine aw_iconst (M := (M_law nm tb)) (n := 1237) (v := 2) dL_law_1236 rfl (by decide) ?_
  refine aw_iadd (M := (M_law nm tb)) (n := 1238) dL_law_1237 rfl ?_
  refine aw_sld (M := (M_law nm tb)) (n := 1239) hG.2.1 hG.2.2.1 (hi 2 (by decide)) dL_law_1238 rfl ?_
  refine aw_aload_n (M := (M_law nm tb)) (n := 1240) (i := 3) dL_law_1239 rfl rfl rfl ?_
  refine aw_cXi (M := (M_law nm tb)) (n := 1243) (As := [.ref 0, .int (gx G (i + 1).toNatClampNeg), .int (gx G (i + 2).toNatClampNeg), .ref 132]) (rest := []) lw_L_149 rfl rfl (c_L_grow hG hN hS (h := Ok.bi h)) (by decide) (Nat.le_of_ble_eq_true rfl) (by omega) (by omega) dL_law_1240 rfl (fun x0 D h => ?_)
  refine aw_istore (M := (M_law nm tb)) (n := 1245) (al' := [some (.ref 30000), some (.ref 0), some (.ref 88), some (.ref 132), some (.int i), some (.int x0), none]) dL_law_1243 rfl rfl (Nat.le_of_ble_eq_true rfl) rfl ?_
  refine aw_aload_n (M := (M_law nm tb)) (n := 1246) (i := 2) dL_law_1245 rfl rfl rfl ?_
  refine aw_aload_n (M := (M_law nm tb)) (n := 1247) (i := 0) dL_law_1246 rfl rfl rfl ?_
  refine aw_iload (M := (M_law nm tb)) (n := 1249) dL_law_1247 rfl rfl ?_
  refine aw_iconst (M := (M_law nm tb)) (n := 1250) (v := 1) dL_law_1249 rfl (by decide) ?_
  refine aw_iadd (M := (M_law nm tb)) (n := 1251) dL_law_1250 rfl ?_
  refine aw_sld (M := (M_law nm tb)) (n := 1252) hG.2.1 hG.2.2.1 (hi 1 (by decide)) dL_law_1251 rfl ?_
  refine aw_aload_n (M := (M_law nm tb)) (n := 1253) (i := 0) dL_law_1252 rfl rfl rfl ?_
  refine aw_iload (M := (M_law nm tb)) (n := 1255) dL_law_1253 rfl rfl ?_
  refine aw_iconst (M := (M_law nm tb)) (n := 1256) (v := 2) dL_law_1255 rfl (by decide) ?_
  refine aw_iadd (M := (M_law nm tb)) (n := 1257) dL_law_1256 rfl ?_
  refine aw_sld (M := (M_law nm tb)) (n := 1258) hG.2.1 hG.2.2.1 (hi 2 (by decide)) dL_law_1257 rfl ?_
  refine aw_cVi (M := (M_law nm tb)) (n := 1261) (As := [.int (gx G (i + 1).toNatClampNeg), .int (gx G (i + 2).toNatClampNeg)]) (rest := []) hG.1 lw_L_151 rfl rfl (sF_88 hS) (c_X12_grow hG hS (h := Ok.bi h)) (by decide) (Nat.le_of_ble_eq_true rfl) (by omega) (by omega) dL_law_1258 rfl (fun x1 D h => ?_)
  refine aw_istore (M := (M_law nm tb)) (n := 1263) (al' := [some (.ref 30000), some (.ref 0), some (.ref 88), some (.ref 132), some (.int i), some (.int x0), some (.int x1)]) dL_law_1261 rfl rfl (Nat.le_of_ble_eq_true rfl) rfl ?_
  refine aw_aload_n (M := (M_law nm tb)) (n := 1264) (i := 2) dL_law_1263 rfl rfl rfl ?_
  refine aw_cVi (M := (M_law nm tb)) (n := 1267) (As := []) (rest := []) hG.1 lw_L_86 rfl rfl (sF_88 hS) (c_X12_thrown hG hS (h := Ok.bi h)) (by decide) (Nat.le_of_ble_eq_true rfl) (by omega) (by omega) dL_law_1264 rfl (fun x2 D h => ?_)
  refine aw_iload (M := (M_law nm tb)) (n := 1269) dL_law_1267 rfl rfl ?_
  refine aw_icmp_eq (M := (M_law nm tb)) (n := 1272) (tgt := 1274) dL_law_1269 rfl (by decide) (fun c => ?_) (fun c => ?_)
  rotate_left
  · exact aZ1 (Ok.dn (Ok.iff h c) :).1
  replace h := Ok.ift h c
  refine aw_iload (M := (M_law nm tb)) (n := 1276) dL_law_1274 rfl rfl ?_
  refine aw_if_ne (M := (M_law nm tb)) (n := 1279) (tgt := 1291) dL_law_1276 rfl (by decide) (fun c => ?_) (fun c => ?_)
  · exact aw_goto (M := (M_law nm tb)) (tgt := 1683) dL_law_1291 (by decide) (aw_le' (al' := [some (.ref 30000), some (.ref 0), some (.ref 88), some (.ref 132), some (.int i), none, none]) (aw_wid (by omega) (by omega) (KT _ (Ok.dn (Ok.ift h c) :).2)) (by exact ⟨rfl, rfl, rfl, rfl, rfl, trivial⟩))
  replace h := Ok.iff h (fun z => z c)
  refine aw_aload_n (M := (M_law nm tb)) (n := 1280) (i := 3) dL_law_1279 rfl rfl rfl ?_
  refine aw_iconst (M := (M_law nm tb)) (n := 1281) (v := 0) dL_law_1280 rfl (by decide) ?_
  refine aw_laload (M := (M_law nm tb)) (n := 1282) hG.1 (sF_132 hS) (aIn_in (i := 0) (n := 1) rfl) dL_law_1281 rfl ?_
  refine aw_iload (M := (M_law nm tb)) (n := 1284) dL_law_1282 rfl rfl ?_
  refine aw_i2l (M := (M_law nm tb)) (n := 1285) dL_law_1284 rfl ?_
  refine aw_lcmp (M := (M_law nm tb)) (n := 1286) dL_law_1285 rfl ?_
  refine aw_if_eq (M := (M_law nm tb)) (n := 1289) (tgt := 1291) dL_law_1286 rfl (by decide) (fun c => ?_) (fun c => ?_)
  rotate_left
  · exact aZ1 (Ok.dn (Ok.iff h c) :).1
  replace h := Ok.ift h c
  refine aw_goto (M := (M_law nm tb)) (tgt := 1683) dL_law_1291 (by decide) ?_
  exact aw_le' (al' := [some (.ref 30000), some (.ref 0), some (.ref 88), some (.ref 132), some (.int i), none, none]) (aw_wid (by omega) (by omega) (KT _ (Ok.dn h :).2)) (by exact ⟨rfl, rfl, rfl, rfl, rfl, trivial⟩)
theorem lw_L_152 : aLkX "NoseTownLaw" 152 M_L_fair ∧ aNp M_L_fair = some 3 := ⟨⟨aU_5 218 rfl rfl, aU_5 219 rfl rfl, aU_1 0 rfl rfl, aU_5 220 rfl rfl, ⟨by decide +kernel, by decide +kernel⟩⟩, by decide +kernel⟩
theorem lw_L_154 : aLkV "NoseTownLaw" 154 12 M_X12_fair ∧ aNp M_X12_fair = some 1 := ⟨⟨aU_8 129 rfl rfl, aU_8 130 rfl rfl, aU_8 131 rfl rfl, aU_1 14 rfl rfl, aU_8 132 rfl rfl, ⟨TX12, 66, rfl⟩, ⟨by decide +kernel, by decide +kernel⟩⟩, by decide +kernel⟩
def f_law_19 (v1 v2 v3 v4 v5 : Int32) (D : aD) : Option (Int32 × aD) :=
  aBi (f_L_fair v1 D) (fun x0 D => aBi (f_X12_fair v1 D) (fun x1 D => aBi (f_X12_thrown D) (fun x2 D => if x2 = x0 then if x0 ≠ 0 then some (1, D) else if (lg_cmp (gJ D 132 0) x1.toInt64) = 0 then some (1, D) else some (0, D) else some (0, D))))
set_option maxRecDepth 100000 in
set_option maxHeartbeats 1000000 in
theorem law_case_19 {G : aG} (hG : gOK G) (hN : va_Nc "java/lang/IllegalArgumentException" "java/util/NoSuchElementException" (gs G)) {shp : List aSh} (hS : aShp shp) {nm : String} {tb : List (Nat × Nat × Nat × Nat)} {fr : Option Nat} {kc ks : Nat} {i : Int32} {D : aD} {Q : aQ} {P : aD → Prop} (hi : ∀ c : Nat, c < 6 → vp_in (i + Int32.ofNat c) (gL G)) (hkc : kc + 4 ≤ 601024) (hks : ks + 24 ≤ 7293034) (h : Ok2 (f_law_19 (gx G (i + 1).toNatClampNeg) (gx G (i + 2).toNatClampNeg) (gx G (i + 3).toNatClampNeg) (gx G (i + 4).toNatClampNeg) (gx G (i + 5).toNatClampNeg) D) (fun r D => r = 1 ∧ P D)) (KT : ∀ D : aD, P D → AW G (aRm 1024 601024 7293034) (M_law nm tb) fr (kc + 4) (ks + 24) 1683 [some (.ref 30000), some (.ref 0), some (.ref 88), some (.ref 132), some (.int i), none, none] [] shp D Q) : AW G (aRm 1024 601024 7293034) (M_law nm tb) fr kc ks 1294 [some (.ref 30000), some (.ref 0), some (.ref 88), some (.ref 132), some (.int i), none, none] [] shp D Q := by
  unfold f_law_19 at h
  replace h := Ok2.ok h
  refine aw_aload_n (M := (M_law nm tb)) (n := 1295) (i := 1) dL_law_1294 rfl rfl rfl ?_
  refine aw_aload_n (M := (M_law nm tb)) (n := 1296) (i := 0) dL_law_1295 rfl rfl rfl ?_
  refine aw_iload (M := (M_law nm tb)) (n := 1298) dL_law_1296 rfl rfl ?_
  refine aw_iconst (M := (M_law nm tb)) (n := 1299) (v := 1) dL_law_1298 rfl (by decide) ?_
  refine aw_iadd (M := (M_law nm tb)) (n := 1300) dL_law_1299 rfl ?_
  refine aw_sld (M := (M_law nm tb)) (n := 1301) hG.2.1 hG.2.2.1 (hi 1 (by decide)) dL_law_1300 rfl ?_
  refine aw_aload_n (M := (M_law nm tb)) (n := 1302) (i := 3) dL_law_1301 rfl rfl rfl ?_
  refine aw_cXi (M := (M_law nm tb)) (n := 1305) (As := [.ref 0, .int (gx G (i + 1).toNatClampNeg), .ref 132]) (rest := []) lw_L_152 rfl rfl (c_L_fair hG hN hS (h := Ok.bi h)) (by decide) (Nat.le_of_ble_eq_true rfl) (by omega) (by omega) dL_law_1302 rfl (fun x0 D h => ?_)
  refine aw_istore (M := (M_law nm tb)) (n := 1307) (al' := [some (.ref 30000), some (.ref 0), some (.ref 88), some (.ref 132), some (.int i), some (.int x0), none]) dL_law_1305 rfl rfl (Nat.le_of_ble_eq_true rfl) rfl ?_
  refine aw_aload_n (M := (M_law nm tb)) (n := 1308) (i := 2) dL_law_1307 rfl rfl rfl ?_
  refine aw_aload_n (M := (M_law nm tb)) (n := 1309) (i := 0) dL_law_1308 rfl rfl rfl ?_
  refine aw_iload (M := (M_law nm tb)) (n := 1311) dL_law_1309 rfl rfl ?_
  refine aw_iconst (M := (M_law nm tb)) (n := 1312) (v := 1) dL_law_1311 rfl (by decide) ?_
  refine aw_iadd (M := (M_law nm tb)) (n := 1313) dL_law_1312 rfl ?_
  refine aw_sld (M := (M_law nm tb)) (n := 1314) hG.2.1 hG.2.2.1 (hi 1 (by decide)) dL_law_1313 rfl ?_
  refine aw_cVi (M := (M_law nm tb)) (n := 1317) (As := [.int (gx G (i + 1).toNatClampNeg)]) (rest := []) hG.1 lw_L_154 rfl rfl (sF_88 hS) (c_X12_fair hG hS (h := Ok.bi h)) (by decide) (Nat.le_of_ble_eq_true rfl) (by omega) (by omega) dL_law_1314 rfl (fun x1 D h => ?_)
  refine aw_istore (M := (M_law nm tb)) (n := 1319) (al' := [some (.ref 30000), some (.ref 0), some (.ref 88), some (.ref 132), some (.int i), some (.int x0), some (.int x1)]) dL_law_1317 rfl rfl (Nat.le_of_ble_eq_true rfl) rfl ?_
  refine aw_aload_n (M := (M_law nm tb)) (n := 1320) (i := 2) dL_law_1319 rfl rfl rfl ?_
  refine aw_cVi (M := (M_law nm tb)) (n := 1323) (As := []) (rest := []) hG.1 lw_L_86 rfl rfl (sF_88 hS) (c_X12_thrown hG hS (h := Ok.bi h)) (by decide) (Nat.le_of_ble_eq_true rfl) (by omega) (by omega) dL_law_1320 rfl (fun x2 D h => ?_)
  refine aw_iload (M := (M_law nm tb)) (n := 1325) dL_law_1323 rfl rfl ?_
  refine aw_icmp_eq (M := (M_law nm tb)) (n := 1328) (tgt := 1330) dL_law_1325 rfl (by decide) (fun c => ?_) (fun c => ?_)
  rotate_left
  · exact aZ1 (Ok.dn (Ok.iff h c) :).1
  replace h := Ok.ift h c
  refine aw_iload (M := (M_law nm tb)) (n := 1332) dL_law_1330 rfl rfl ?_
  refine aw_if_ne (M := (M_law nm tb)) (n := 1335) (tgt := 1347) dL_law_1332 rfl (by decide) (fun c => ?_) (fun c => ?_)
  · exact aw_goto (M := (M_law nm tb)) (tgt := 1683) dL_law_1347 (by decide) (aw_le' (al' := [some (.ref 30000), some (.ref 0), some (.ref 88), some (.ref 132), some (.int i), none, none]) (aw_wid (by omega) (by omega) (KT _ (Ok.dn (Ok.ift h c) :).2)) (by exact ⟨rfl, rfl, rfl, rfl, rfl, trivial⟩))
  replace h := Ok.iff h (fun z => z c)
  refine aw_aload_n (M := (M_law nm tb)) (n := 1336) (i := 3) dL_law_1335 rfl rfl rfl ?_
  refine aw_iconst (M := (M_law nm tb)) (n := 1337) (v := 0) dL_law_1336 rfl (by decide) ?_
  refine aw_laload (M := (M_law nm tb)) (n := 1338) hG.1 (sF_132 hS) (aIn_in (i := 0) (n := 1) rfl) dL_law_1337 rfl ?_
  refine aw_iload (M := (M_law nm tb)) (n := 1340) dL_law_1338 rfl rfl ?_
  refine aw_i2l (M := (M_law nm tb)) (n := 1341) dL_law_1340 rfl ?_
  refine aw_lcmp (M := (M_law nm tb)) (n := 1342) dL_law_1341 rfl ?_
  refine aw_if_eq (M := (M_law nm tb)) (n := 1345) (tgt := 1347) dL_law_1342 rfl (by decide) (fun c => ?_) (fun c => ?_)
  rotate_left
  · exact aZ1 (Ok.dn (Ok.iff h c) :).1
  replace h := Ok.ift h c
  refine aw_goto (M := (M_law nm tb)) (tgt := 1683) dL_law_1347 (by decide) ?_
  exact aw_le' (al' := [some (.ref 30000), some (.ref 0), some (.ref 88), some (.ref 132), some (.int i), none, none]) (aw_wid (by omega) (by omega) (KT _ (Ok.dn h :).2)) (by exact ⟨rfl, rfl, rfl, rfl, rfl, trivial⟩)
theorem lw_L_155 : aLkX "NoseTownLaw" 155 M_L_nose ∧ aNp M_L_nose = some 6 := ⟨⟨aU_6 22 rfl rfl, aU_6 23 rfl rfl, aU_1 0 rfl rfl, aU_6 24 rfl rfl, ⟨by decide +kernel, by decide +kernel⟩⟩, by decide +kernel⟩
theorem lw_L_157 : aLkV "NoseTownLaw" 157 12 M_X12_nose ∧ aNp M_X12_nose = some 4 := ⟨⟨aU_8 141 rfl rfl, aU_8 142 rfl rfl, aU_8 143 rfl rfl, aU_1 14 rfl rfl, aU_8 144 rfl rfl, ⟨TX12, 66, rfl⟩, ⟨by decide +kernel, by decide +kernel⟩⟩, by decide +kernel⟩
def f_law_20 (v1 v2 v3 v4 v5 : Int32) (D : aD) : Option (Int32 × aD) :=
  aBi (f_L_nose v1 v2 v3 v4 D) (fun x0 D => aBi (f_X12_nose v1 v2 v3 v4 D) (fun x1 D => aBi (f_X12_thrown D) (fun x2 D => if x2 = x0 then if x0 ≠ 0 then some (1, D) else if (lg_cmp (gJ D 132 0) x1.toInt64) = 0 then some (1, D) else some (0, D) else some (0, D))))
set_option maxRecDepth 100000 in
set_option maxHeartbeats 1000000 in
theorem law_case_20 {G : aG} (hG : gOK G) (hN : va_Nc "java/lang/IllegalArgumentException" "java/util/NoSuchElementException" (gs G)) {shp : List aSh} (hS : aShp shp) {nm : String} {tb : List (Nat × Nat × Nat × Nat)} {fr : Option Nat} {kc ks : Nat} {i : Int32} {D : aD} {Q : aQ} {P : aD → Prop} (hi : ∀ c : Nat, c < 6 → vp_in (i + Int32.ofNat c) (gL G)) (hkc : kc + 4 ≤ 601024) (hks : ks + 24 ≤ 7293034) (h : Ok2 (f_law_20 (gx G (i + 1).toNatClampNeg) (gx G (i + 2).toNatClampNeg) (gx G (i + 3).toNatClampNeg) (gx G (i + 4).toNatClampNeg) (gx G (i + 5).toNatClampNeg) D) (fun r D => r = 1 ∧ P D)) (KT : ∀ D : aD, P D → AW G (aRm 1024 601024 7293034) (M_law nm tb) fr (kc + 4) (ks + 24) 1683 [some (.ref 30000), some (.ref 0), some (.ref 88), some (.ref 132), some (.int i), none, none] [] shp D Q) : AW G (aRm 1024 601024 7293034) (M_law nm tb) fr kc ks 1350 [some (.ref 30000), some (.ref 0), some (.ref 88), some (.ref 132), some (.int i), none, none] [] shp D Q := by
  unfold f_law_20 at h
  replace h := Ok2.ok h
  refine aw_aload_n (M := (M_law nm tb)) (n := 1351) (i := 1) dL_law_1350 rfl rfl rfl ?_
  refine aw_aload_n (M := (M_law nm tb)) (n := 1352) (i := 0) dL_law_1351 rfl rfl rfl ?_
  refine aw_iload (M := (M_law nm tb)) (n := 1354) dL_law_1352 rfl rfl ?_
  refine aw_iconst (M := (M_law nm tb)) (n := 1355) (v := 1) dL_law_1354 rfl (by decide) ?_
  refine aw_iadd (M := (M_law nm tb)) (n := 1356) dL_law_1355 rfl ?_
  refine aw_sld (M := (M_law nm tb)) (n := 1357) hG.2.1 hG.2.2.1 (hi 1 (by decide)) dL_law_1356 rfl ?_
  refine aw_aload_n (M := (M_law nm tb)) (n := 1358) (i := 0) dL_law_1357 rfl rfl rfl ?_
  refine aw_iload (M := (M_law nm tb)) (n := 1360) dL_law_1358 rfl rfl ?_
  refine aw_iconst (M := (M_law nm tb)) (n := 1361) (v := 2) dL_law_1360 rfl (by decide) ?_
  refine aw_iadd (M := (M_law nm tb)) (n := 1362) dL_law_1361 rfl ?_
  refine aw_sld (M := (M_law nm tb)) (n := 1363) hG.2.1 hG.2.2.1 (hi 2 (by decide)) dL_law_1362 rfl ?_
  refine aw_aload_n (M := (M_law nm tb)) (n := 1364) (i := 0) dL_law_1363 rfl rfl rfl ?_
  refine aw_iload (M := (M_law nm tb)) (n := 1366) dL_law_1364 rfl rfl ?_
  refine aw_iconst (M := (M_law nm tb)) (n := 1367) (v := 3) dL_law_1366 rfl (by decide) ?_
  refine aw_iadd (M := (M_law nm tb)) (n := 1368) dL_law_1367 rfl ?_
  refine aw_sld (M := (M_law nm tb)) (n := 1369) hG.2.1 hG.2.2.1 (hi 3 (by decide)) dL_law_1368 rfl ?_
  refine aw_aload_n (M := (M_law nm tb)) (n := 1370) (i := 0) dL_law_1369 rfl rfl rfl ?_
  refine aw_iload (M := (M_law nm tb)) (n := 1372) dL_law_1370 rfl rfl ?_
  refine aw_iconst (M := (M_law nm tb)) (n := 1373) (v := 4) dL_law_1372 rfl (by decide) ?_
  refine aw_iadd (M := (M_law nm tb)) (n := 1374) dL_law_1373 rfl ?_
  refine aw_sld (M := (M_law nm tb)) (n := 1375) hG.2.1 hG.2.2.1 (hi 4 (by decide)) dL_law_1374 rfl ?_
  refine aw_aload_n (M := (M_law nm tb)) (n := 1376) (i := 3) dL_law_1375 rfl rfl rfl ?_
  refine aw_cXi (M := (M_law nm tb)) (n := 1379) (As := [.ref 0, .int (gx G (i + 1).toNatClampNeg), .int (gx G (i + 2).toNatClampNeg), .int (gx G (i + 3).toNatClampNeg), .int (gx G (i + 4).toNatClampNeg), .ref 132]) (rest := []) lw_L_155 rfl rfl (c_L_nose hG hN hS (h := Ok.bi h)) (by decide) (Nat.le_of_ble_eq_true rfl) (by omega) (by omega) dL_law_1376 rfl (fun x0 D h => ?_)
  refine aw_istore (M := (M_law nm tb)) (n := 1381) (al' := [some (.ref 30000), some (.ref 0), some (.ref 88), some (.ref 132), some (.int i), some (.int x0), none]) dL_law_1379 rfl rfl (Nat.le_of_ble_eq_true rfl) rfl ?_
  refine aw_aload_n (M := (M_law nm tb)) (n := 1382) (i := 2) dL_law_1381 rfl rfl rfl ?_
  refine aw_aload_n (M := (M_law nm tb)) (n := 1383) (i := 0) dL_law_1382 rfl rfl rfl ?_
  refine aw_iload (M := (M_law nm tb)) (n := 1385) dL_law_1383 rfl rfl ?_
  refine aw_iconst (M := (M_law nm tb)) (n := 1386) (v := 1) dL_law_1385 rfl (by decide) ?_
  refine aw_iadd (M := (M_law nm tb)) (n := 1387) dL_law_1386 rfl ?_
  refine aw_sld (M := (M_law nm tb)) (n := 1388) hG.2.1 hG.2.2.1 (hi 1 (by decide)) dL_law_1387 rfl ?_
  refine aw_aload_n (M := (M_law nm tb)) (n := 1389) (i := 0) dL_law_1388 rfl rfl rfl ?_
  refine aw_iload (M := (M_law nm tb)) (n := 1391) dL_law_1389 rfl rfl ?_
  refine aw_iconst (M := (M_law nm tb)) (n := 1392) (v := 2) dL_law_1391 rfl (by decide) ?_
  refine aw_iadd (M := (M_law nm tb)) (n := 1393) dL_law_1392 rfl ?_
  refine aw_sld (M := (M_law nm tb)) (n := 1394) hG.2.1 hG.2.2.1 (hi 2 (by decide)) dL_law_1393 rfl ?_
  refine aw_aload_n (M := (M_law nm tb)) (n := 1395) (i := 0) dL_law_1394 rfl rfl rfl ?_
  refine aw_iload (M := (M_law nm tb)) (n := 1397) dL_law_1395 rfl rfl ?_
  refine aw_iconst (M := (M_law nm tb)) (n := 1398) (v := 3) dL_law_1397 rfl (by decide) ?_
  refine aw_iadd (M := (M_law nm tb)) (n := 1399) dL_law_1398 rfl ?_
  refine aw_sld (M := (M_law nm tb)) (n := 1400) hG.2.1 hG.2.2.1 (hi 3 (by decide)) dL_law_1399 rfl ?_
  refine aw_aload_n (M := (M_law nm tb)) (n := 1401) (i := 0) dL_law_1400 rfl rfl rfl ?_
  refine aw_iload (M := (M_law nm tb)) (n := 1403) dL_law_1401 rfl rfl ?_
  refine aw_iconst (M := (M_law nm tb)) (n := 1404) (v := 4) dL_law_1403 rfl (by decide) ?_
  refine aw_iadd (M := (M_law nm tb)) (n := 1405) dL_law_1404 rfl ?_
  refine aw_sld (M := (M_law nm tb)) (n := 1406) hG.2.1 hG.2.2.1 (hi 4 (by decide)) dL_law_1405 rfl ?_
  refine aw_cVi (M := (M_law nm tb)) (n := 1409) (As := [.int (gx G (i + 1).toNatClampNeg), .int (gx G (i + 2).toNatClampNeg), .int (gx G (i + 3).toNatClampNeg), .int (gx G (i + 4).toNatClampNeg)]) (rest := []) hG.1 lw_L_157 rfl rfl (sF_88 hS) (c_X12_nose hG hS (h := Ok.bi h)) (by decide) (Nat.le_of_ble_eq_true rfl) (by omega) (by omega) dL_law_1406 rfl (fun x1 D h => ?_)
  refine aw_istore (M := (M_law nm tb)) (n := 1411) (al' := [some (.ref 30000), some (.ref 0), some (.ref 88), some (.ref 132), some (.int i), some (.int x0), some (.int x1)]) dL_law_1409 rfl rfl (Nat.le_of_ble_eq_true rfl) rfl ?_
  refine aw_aload_n (M := (M_law nm tb)) (n := 1412) (i := 2) dL_law_1411 rfl rfl rfl ?_
  refine aw_cVi (M := (M_law nm tb)) (n := 1415) (As := []) (rest := []) hG.1 lw_L_86 rfl rfl (sF_88 hS) (c_X12_thrown hG hS (h := Ok.bi h)) (by decide) (Nat.le_of_ble_eq_true rfl) (by omega) (by omega) dL_law_1412 rfl (fun x2 D h => ?_)
  refine aw_iload (M := (M_law nm tb)) (n := 1417) dL_law_1415 rfl rfl ?_
  refine aw_icmp_eq (M := (M_law nm tb)) (n := 1420) (tgt := 1422) dL_law_1417 rfl (by decide) (fun c => ?_) (fun c => ?_)
  rotate_left
  · exact aZ1 (Ok.dn (Ok.iff h c) :).1
  replace h := Ok.ift h c
  refine aw_iload (M := (M_law nm tb)) (n := 1424) dL_law_1422 rfl rfl ?_
  refine aw_if_ne (M := (M_law nm tb)) (n := 1427) (tgt := 1439) dL_law_1424 rfl (by decide) (fun c => ?_) (fun c => ?_)
  · exact aw_goto (M := (M_law nm tb)) (tgt := 1683) dL_law_1439 (by decide) (aw_le' (al' := [some (.ref 30000), some (.ref 0), some (.ref 88), some (.ref 132), some (.int i), none, none]) (aw_wid (by omega) (by omega) (KT _ (Ok.dn (Ok.ift h c) :).2)) (by exact ⟨rfl, rfl, rfl, rfl, rfl, trivial⟩))
  replace h := Ok.iff h (fun z => z c)
  refine aw_aload_n (M := (M_law nm tb)) (n := 1428) (i := 3) dL_law_1427 rfl rfl rfl ?_
  refine aw_iconst (M := (M_law nm tb)) (n := 1429) (v := 0) dL_law_1428 rfl (by decide) ?_
  refine aw_laload (M := (M_law nm tb)) (n := 1430) hG.1 (sF_132 hS) (aIn_in (i := 0) (n := 1) rfl) dL_law_1429 rfl ?_
  refine aw_iload (M := (M_law nm tb)) (n := 1432) dL_law_1430 rfl rfl ?_
  refine aw_i2l (M := (M_law nm tb)) (n := 1433) dL_law_1432 rfl ?_
  refine aw_lcmp (M := (M_law nm tb)) (n := 1434) dL_law_1433 rfl ?_
  refine aw_if_eq (M := (M_law nm tb)) (n := 1437) (tgt := 1439) dL_law_1434 rfl (by decide) (fun c => ?_) (fun c => ?_)
  rotate_left
  · exact aZ1 (Ok.dn (Ok.iff h c) :).1
  replace h := Ok.ift h c
  refine aw_goto (M := (M_law nm tb)) (tgt := 1683) dL_law_1439 (by decide) ?_
  exact aw_le' (al' := [some (.ref 30000), some (.ref 0), some (.ref 88), some (.ref 132), some (.int i), none, none]) (aw_wid (by omega) (by omega) (KT _ (Ok.dn h :).2)) (by exact ⟨rfl, rfl, rfl, rfl, rfl, trivial⟩)
theorem lw_L_158 : aLkV "NoseTownLaw" 158 11 M_X11_forget ∧ aNp M_X11_forget = some 0 := ⟨⟨aU_4 22 rfl rfl, aU_4 23 rfl rfl, aU_4 24 rfl rfl, aU_1 1 rfl rfl, aU_4 25 rfl rfl, ⟨TX11, 14, rfl⟩, ⟨by decide +kernel, by decide +kernel⟩⟩, by decide +kernel⟩
theorem lw_L_161 : aLkV "NoseTownLaw" 161 12 M_X12_forget ∧ aNp M_X12_forget = some 0 := ⟨⟨aU_8 145 rfl rfl, aU_8 146 rfl rfl, aU_8 147 rfl rfl, aU_1 14 rfl rfl, aU_8 148 rfl rfl, ⟨TX12, 66, rfl⟩, ⟨by decide +kernel, by decide +kernel⟩⟩, by decide +kernel⟩
def f_law_21 (v1 v2 v3 v4 v5 : Int32) (D : aD) : Option (Int32 × aD) :=
  aBi (f_X11_forget D) (fun x0 D => aBi (f_X12_forget D) (fun x1 D => if x0 = x1 then some (1, D) else some (0, D)))
set_option maxRecDepth 100000 in
set_option maxHeartbeats 1000000 in
theorem law_case_21 {G : aG} (hG : gOK G) (hN : va_Nc "java/lang/IllegalArgumentException" "java/util/NoSuchElementException" (gs G)) {shp : List aSh} (hS : aShp shp) {nm : String} {tb : List (Nat × Nat × Nat × Nat)} {fr : Option Nat} {kc ks : Nat} {i : Int32} {D : aD} {Q : aQ} {P : aD → Prop} (hi : ∀ c : Nat, c < 6 → vp_in (i + Int32.ofNat c) (gL G)) (hkc : kc + 4 ≤ 601024) (hks : ks + 24 ≤ 7293034) (h : Ok2 (f_law_21 (gx G (i + 1).toNatClampNeg) (gx G (i + 2).toNatClampNeg) (gx G (i + 3).toNatClampNeg) (gx G (i + 4).toNatClampNeg) (gx G (i + 5).toNatClampNeg) D) (fun r D => r = 1 ∧ P D)) (KT : ∀ D : aD, P D → AW G (aRm 1024 601024 7293034) (M_law nm tb) fr (kc + 4) (ks + 24) 1683 [some (.ref 30000), some (.ref 0), some (.ref 88), some (.ref 132), some (.int i), none, none] [] shp D Q) : AW G (aRm 1024 601024 7293034) (M_law nm tb) fr kc ks 1442 [some (.ref 30000), some (.ref 0), some (.ref 88), some (.ref 132), some (.int i), none, none] [] shp D Q := by
  unfold f_law_21 at h
  replace h := Ok2.ok h
  refine aw_aload_n (M := (M_law nm tb)) (n := 1443) (i := 1) dL_law_1442 rfl rfl rfl ?_
  refine aw_cVi (M := (M_law nm tb)) (n := 1446) (As := []) (rest := []) hG.1 lw_L_158 rfl rfl (sF_0 hS) (c_X11_forget hG hS (h := Ok.bi h)) (by decide) (Nat.le_of_ble_eq_true rfl) (by omega) (by omega) dL_law_1443 rfl (fun x0 D h => ?_)
  refine aw_aload_n (M := (M_law nm tb)) (n := 1447) (i := 2) dL_law_1446 rfl rfl rfl ?_
  refine aw_cVi (M := (M_law nm tb)) (n := 1450) (As := []) (rest := [.int x0]) hG.1 lw_L_161 rfl rfl (sF_88 hS) (c_X12_forget hG hS (h := Ok.bi h)) (by decide) (Nat.le_of_ble_eq_true rfl) (by omega) (by omega) dL_law_1447 rfl (fun x1 D h => ?_)
  refine aw_icmp_eq (M := (M_law nm tb)) (n := 1453) (tgt := 1683) dL_law_1450 rfl (by decide) (fun c => ?_) (fun c => ?_)
  rotate_left
  · exact aZ1 (Ok.dn (Ok.iff h c) :).1
  replace h := Ok.ift h c
  exact aw_le' (al' := [some (.ref 30000), some (.ref 0), some (.ref 88), some (.ref 132), some (.int i), none, none]) (aw_wid (by omega) (by omega) (KT _ (Ok.dn h :).2)) (by exact ⟨rfl, rfl, rfl, rfl, rfl, trivial⟩)
theorem lw_L_162 : aLkX "NoseTownLaw" 162 M_L_cases ∧ aNp M_L_cases = some 3 := ⟨⟨aU_6 33 rfl rfl, aU_6 34 rfl rfl, aU_1 0 rfl rfl, aU_6 35 rfl rfl, ⟨by decide +kernel, by decide +kernel⟩⟩, by decide +kernel⟩
theorem lw_L_164 : aLkV "NoseTownLaw" 164 12 M_X12_cases ∧ aNp M_X12_cases = some 1 := ⟨⟨aU_8 149 rfl rfl, aU_8 150 rfl rfl, aU_8 151 rfl rfl, aU_1 14 rfl rfl, aU_8 152 rfl rfl, ⟨TX12, 66, rfl⟩, ⟨by decide +kernel, by decide +kernel⟩⟩, by decide +kernel⟩
def f_law_22 (v1 v2 v3 v4 v5 : Int32) (D : aD) : Option (Int32 × aD) :=
  aBi (f_L_cases v1 D) (fun x0 D => aBi (f_X12_cases v1 D) (fun x1 D => aBi (f_X12_thrown D) (fun x2 D => if x2 = x0 then if x0 ≠ 0 then some (1, D) else if (lg_cmp (gJ D 132 0) x1.toInt64) = 0 then some (1, D) else some (0, D) else some (0, D))))
set_option maxRecDepth 100000 in
set_option maxHeartbeats 1000000 in
theorem law_case_22 {G : aG} (hG : gOK G) (hN : va_Nc "java/lang/IllegalArgumentException" "java/util/NoSuchElementException" (gs G)) {shp : List aSh} (hS : aShp shp) {nm : String} {tb : List (Nat × Nat × Nat × Nat)} {fr : Option Nat} {kc ks : Nat} {i : Int32} {D : aD} {Q : aQ} {P : aD → Prop} (hi : ∀ c : Nat, c < 6 → vp_in (i + Int32.ofNat c) (gL G)) (hkc : kc + 4 ≤ 601024) (hks : ks + 24 ≤ 7293034) (h : Ok2 (f_law_22 (gx G (i + 1).toNatClampNeg) (gx G (i + 2).toNatClampNeg) (gx G (i + 3).toNatClampNeg) (gx G (i + 4).toNatClampNeg) (gx G (i + 5).toNatClampNeg) D) (fun r D => r = 1 ∧ P D)) (KT : ∀ D : aD, P D → AW G (aRm 1024 601024 7293034) (M_law nm tb) fr (kc + 4) (ks + 24) 1683 [some (.ref 30000), some (.ref 0), some (.ref 88), some (.ref 132), some (.int i), none, none] [] shp D Q) : AW G (aRm 1024 601024 7293034) (M_law nm tb) fr kc ks 1455 [some (.ref 30000), some (.ref 0), some (.ref 88), some (.ref 132), some (.int i), none, none] [] shp D Q := by
  unfold f_law_22 at h
  replace h := Ok2.ok h
  refine aw_aload_n (M := (M_law nm tb)) (n := 1456) (i := 1) dL_law_1455 rfl rfl rfl ?_
  refine aw_aload_n (M := (M_law nm tb)) (n := 1457) (i := 0) dL_law_1456 rfl rfl rfl ?_
  refine aw_iload (M := (M_law nm tb)) (n := 1459) dL_law_1457 rfl rfl ?_
  refine aw_iconst (M := (M_law nm tb)) (n := 1460) (v := 1) dL_law_1459 rfl (by decide) ?_
  refine aw_iadd (M := (M_law nm tb)) (n := 1461) dL_law_1460 rfl ?_
  refine aw_sld (M := (M_law nm tb)) (n := 1462) hG.2.1 hG.2.2.1 (hi 1 (by decide)) dL_law_1461 rfl ?_
  refine aw_aload_n (M := (M_law nm tb)) (n := 1463) (i := 3) dL_law_1462 rfl rfl rfl ?_
  refine aw_cXi (M := (M_law nm tb)) (n := 1466) (As := [.ref 0, .int (gx G (i + 1).toNatClampNeg), .ref 132]) (rest := []) lw_L_162 rfl rfl (c_L_cases hG hN hS (h := Ok.bi h)) (by decide) (Nat.le_of_ble_eq_true rfl) (by omega) (by omega) dL_law_1463 rfl (fun x0 D h => ?_)
  refine aw_istore (M := (M_law nm tb)) (n := 1468) (al' := [some (.ref 30000), some (.ref 0), some (.ref 88), some (.ref 132), some (.int i), some (.int x0), none]) dL_law_1466 rfl rfl (Nat.le_of_ble_eq_true rfl) rfl ?_
  refine aw_aload_n (M := (M_law nm tb)) (n := 1469) (i := 2) dL_law_1468 rfl rfl rfl ?_
  refine aw_aload_n (M := (M_law nm tb)) (n := 1470) (i := 0) dL_law_1469 rfl rfl rfl ?_
  refine aw_iload (M := (M_law nm tb)) (n := 1472) dL_law_1470 rfl rfl ?_
  refine aw_iconst (M := (M_law nm tb)) (n := 1473) (v := 1) dL_law_1472 rfl (by decide) ?_
  refine aw_iadd (M := (M_law nm tb)) (n := 1474) dL_law_1473 rfl ?_
  refine aw_sld (M := (M_law nm tb)) (n := 1475) hG.2.1 hG.2.2.1 (hi 1 (by decide)) dL_law_1474 rfl ?_
  refine aw_cVi (M := (M_law nm tb)) (n := 1478) (As := [.int (gx G (i + 1).toNatClampNeg)]) (rest := []) hG.1 lw_L_164 rfl rfl (sF_88 hS) (c_X12_cases hG hS (h := Ok.bi h)) (by decide) (Nat.le_of_ble_eq_true rfl) (by omega) (by omega) dL_law_1475 rfl (fun x1 D h => ?_)
  refine aw_istore (M := (M_law nm tb)) (n := 1480) (al' := [some (.ref 30000), some (.ref 0), some (.ref 88), some (.ref 132), some (.int i), some (.int x0), some (.int x1)]) dL_law_1478 rfl rfl (Nat.le_of_ble_eq_true rfl) rfl ?_
  refine aw_aload_n (M := (M_law nm tb)) (n := 1481) (i := 2) dL_law_1480 rfl rfl rfl ?_
  refine aw_cVi (M := (M_law nm tb)) (n := 1484) (As := []) (rest := []) hG.1 lw_L_86 rfl rfl (sF_88 hS) (c_X12_thrown hG hS (h := Ok.bi h)) (by decide) (Nat.le_of_ble_eq_true rfl) (by omega) (by omega) dL_law_1481 rfl (fun x2 D h => ?_)
  refine aw_iload (M := (M_law nm tb)) (n := 1486) dL_law_1484 rfl rfl ?_
  refine aw_icmp_eq (M := (M_law nm tb)) (n := 1489) (tgt := 1491) dL_law_1486 rfl (by decide) (fun c => ?_) (fun c => ?_)
  rotate_left
  · exact aZ1 (Ok.dn (Ok.iff h c) :).1
  replace h := Ok.ift h c
  refine aw_iload (M := (M_law nm tb)) (n := 1493) dL_law_1491 rfl rfl ?_
  refine aw_if_ne (M := (M_law nm tb)) (n := 1496) (tgt := 1508) dL_law_1493 rfl (by decide) (fun c => ?_) (fun c => ?_)
  · exact aw_goto (M := (M_law nm tb)) (tgt := 1683) dL_law_1508 (by decide) (aw_le' (al' := [some (.ref 30000), some (.ref 0), some (.ref 88), some (.ref 132), some (.int i), none, none]) (aw_wid (by omega) (by omega) (KT _ (Ok.dn (Ok.ift h c) :).2)) (by exact ⟨rfl, rfl, rfl, rfl, rfl, trivial⟩))
  replace h := Ok.iff h (fun z => z c)
  refine aw_aload_n (M := (M_law nm tb)) (n := 1497) (i := 3) dL_law_1496 rfl rfl rfl ?_
  refine aw_iconst (M := (M_law nm tb)) (n := 1498) (v := 0) dL_law_1497 rfl (by decide) ?_
  refine aw_laload (M := (M_law nm tb)) (n := 1499) hG.1 (sF_132 hS) (aIn_in (i := 0) (n := 1) rfl) dL_law_1498 rfl ?_
  refine aw_iload (M := (M_law nm tb)) (n := 1501) dL_law_1499 rfl rfl ?_
  refine aw_i2l (M := (M_law nm tb)) (n := 1502) dL_law_1501 rfl ?_
  refine aw_lcmp (M := (M_law nm tb)) (n := 1503) dL_law_1502 rfl ?_
  refine aw_if_eq (M := (M_law nm tb)) (n := 1506) (tgt := 1508) dL_law_1503 rfl (by decide) (fun c => ?_) (fun c => ?_)
  rotate_left
  · exact aZ1 (Ok.dn (Ok.iff h c) :).1
  replace h := Ok.ift h c
  refine aw_goto (M := (M_law nm tb)) (tgt := 1683) dL_law_1508 (by decide) ?_
  exact aw_le' (al' := [some (.ref 30000), some (.ref 0), some (.ref 88), some (.ref 132), some (.int i), none, none]) (aw_wid (by omega) (by omega) (KT _ (Ok.dn h :).2)) (by exact ⟨rfl, rfl, rfl, rfl, rfl, trivial⟩)
theorem lw_L_165 : aLkX "NoseTownLaw" 165 M_L_next ∧ aNp M_L_next = some 4 := ⟨⟨aU_6 70 rfl rfl, aU_6 71 rfl rfl, aU_1 0 rfl rfl, aU_6 72 rfl rfl, ⟨by decide +kernel, by decide +kernel⟩⟩, by decide +kernel⟩
theorem lw_L_167 : aLkV "NoseTownLaw" 167 12 M_X12_next ∧ aNp M_X12_next = some 2 := ⟨⟨aU_8 165 rfl rfl, aU_8 166 rfl rfl, aU_8 167 rfl rfl, aU_1 14 rfl rfl, aU_8 168 rfl rfl, ⟨TX12, 66, rfl⟩, ⟨by decide +kernel, by decide +kernel⟩⟩, by decide +kernel⟩
def f_law_23 (v1 v2 v3 v4 v5 : Int32) (D : aD) : Option (Int32 × aD) :=
  aBi (f_L_next v1 v2 D) (fun x0 D => aBi (f_X12_next v1 v2 D) (fun x1 D => aBi (f_X12_thrown D) (fun x2 D => if x2 = x0 then if x0 ≠ 0 then some (1, D) else if (lg_cmp (gJ D 132 0) x1.toInt64) = 0 then some (1, D) else some (0, D) else some (0, D))))
set_option maxRecDepth 100000 in
set_option maxHeartbeats 1000000 in
theorem law_case_23 {G : aG} (hG : gOK G) (hN : va_Nc "java/lang/IllegalArgumentException" "java/util/NoSuchElementException" (gs G)) {shp : List aSh} (hS : aShp shp) {nm : String} {tb : List (Nat × Nat × Nat × Nat)} {fr : Option Nat} {kc ks : Nat} {i : Int32} {D : aD} {Q : aQ} {P : aD → Prop} (hi : ∀ c : Nat, c < 6 → vp_in (i + Int32.ofNat c) (gL G)) (hkc : kc + 4 ≤ 601024) (hks : ks + 24 ≤ 7293034) (h : Ok2 (f_law_23 (gx G (i + 1).toNatClampNeg) (gx G (i + 2).toNatClampNeg) (gx G (i + 3).toNatClampNeg) (gx G (i + 4).toNatClampNeg) (gx G (i + 5).toNatClampNeg) D) (fun r D => r = 1 ∧ P D)) (KT : ∀ D : aD, P D → AW G (aRm 1024 601024 7293034) (M_law nm tb) fr (kc + 4) (ks + 24) 1683 [some (.ref 30000), some (.ref 0), some (.ref 88), some (.ref 132), some (.int i), none, none] [] shp D Q) : AW G (aRm 1024 601024 7293034) (M_law nm tb) fr kc ks 1511 [some (.ref 30000), some (.ref 0), some (.ref 88), some (.ref 132), some (.int i), none, none] [] shp D Q := by
  unfold f_law_23 at h
  replace h := Ok2.ok h
  refine aw_aload_n (M := (M_law nm tb)) (n := 1512) (i := 1) dL_law_1511 rfl rfl rfl ?_
  refine aw_aload_n (M := (M_law nm tb)) (n := 1513) (i := 0) dL_law_1512 rfl rfl rfl ?_
  refine aw_iload (M := (M_law nm tb)) (n := 1515) dL_law_1513 rfl rfl ?_
  refine aw_iconst (M := (M_law nm tb)) (n := 1516) (v := 1) dL_law_1515 rfl (by decide) ?_
  refine aw_iadd (M := (M_law nm tb)) (n := 1517) dL_law_1516 rfl ?_
  refine aw_sld (M := (M_law nm tb)) (n := 1518) hG.2.1 hG.2.2.1 (hi 1 (by decide)) dL_law_1517 rfl ?_
  refine aw_aload_n (M := (M_law nm tb)) (n := 1519) (i := 0) dL_law_1518 rfl rfl rfl ?_
  refine aw_iload (M := (M_law nm tb)) (n := 1521) dL_law_1519 rfl rfl ?_
  refine aw_iconst (M := (M_law nm tb)) (n := 1522) (v := 2) dL_law_1521 rfl (by decide) ?_
  refine aw_iadd (M := (M_law nm tb)) (n := 1523) dL_law_1522 rfl ?_
  refine aw_sld (M := (M_law nm tb)) (n := 1524) hG.2.1 hG.2.2.1 (hi 2 (by decide)) dL_law_1523 rfl ?_
  refine aw_aload_n (M := (M_law nm tb)) (n := 1525) (i := 3) dL_law_1524 rfl rfl rfl ?_
  refine aw_cXi (M := (M_law nm tb)) (n := 1528) (As := [.ref 0, .int (gx G (i + 1).toNatClampNeg), .int (gx G (i + 2).toNatClampNeg), .ref 132]) (rest := []) lw_L_165 rfl rfl (c_L_next hG hN hS (h := Ok.bi h)) (by decide) (Nat.le_of_ble_eq_true rfl) (by omega) (by omega) dL_law_1525 rfl (fun x0 D h => ?_)
  refine aw_istore (M := (M_law nm tb)) (n := 1530) (al' := [some (.ref 30000), some (.ref 0), some (.ref 88), some (.ref 132), some (.int i), some (.int x0), none]) dL_law_1528 rfl rfl (Nat.le_of_ble_eq_true rfl) rfl ?_
  refine aw_aload_n (M := (M_law nm tb)) (n := 1531) (i := 2) dL_law_1530 rfl rfl rfl ?_
  refine aw_aload_n (M := (M_law nm tb)) (n := 1532) (i := 0) dL_law_1531 rfl rfl rfl ?_
  refine aw_iload (M := (M_law nm tb)) (n := 1534) dL_law_1532 rfl rfl ?_
  refine aw_iconst (M := (M_law nm tb)) (n := 1535) (v := 1) dL_law_1534 rfl (by decide) ?_
  refine aw_iadd (M := (M_law nm tb)) (n := 1536) dL_law_1535 rfl ?_
  refine aw_sld (M := (M_law nm tb)) (n := 1537) hG.2.1 hG.2.2.1 (hi 1 (by decide)) dL_law_1536 rfl ?_
  refine aw_aload_n (M := (M_law nm tb)) (n := 1538) (i := 0) dL_law_1537 rfl rfl rfl ?_
  refine aw_iload (M := (M_law nm tb)) (n := 1540) dL_law_1538 rfl rfl ?_
  refine aw_iconst (M := (M_law nm tb)) (n := 1541) (v := 2) dL_law_1540 rfl (by decide) ?_
  refine aw_iadd (M := (M_law nm tb)) (n := 1542) dL_law_1541 rfl ?_
  refine aw_sld (M := (M_law nm tb)) (n := 1543) hG.2.1 hG.2.2.1 (hi 2 (by decide)) dL_law_1542 rfl ?_
  refine aw_cVi (M := (M_law nm tb)) (n := 1546) (As := [.int (gx G (i + 1).toNatClampNeg), .int (gx G (i + 2).toNatClampNeg)]) (rest := []) hG.1 lw_L_167 rfl rfl (sF_88 hS) (c_X12_next hG hS (h := Ok.bi h)) (by decide) (Nat.le_of_ble_eq_true rfl) (by omega) (by omega) dL_law_1543 rfl (fun x1 D h => ?_)
  refine aw_istore (M := (M_law nm tb)) (n := 1548) (al' := [some (.ref 30000), some (.ref 0), some (.ref 88), some (.ref 132), some (.int i), some (.int x0), some (.int x1)]) dL_law_1546 rfl rfl (Nat.le_of_ble_eq_true rfl) rfl ?_
  refine aw_aload_n (M := (M_law nm tb)) (n := 1549) (i := 2) dL_law_1548 rfl rfl rfl ?_
  refine aw_cVi (M := (M_law nm tb)) (n := 1552) (As := []) (rest := []) hG.1 lw_L_86 rfl rfl (sF_88 hS) (c_X12_thrown hG hS (h := Ok.bi h)) (by decide) (Nat.le_of_ble_eq_true rfl) (by omega) (by omega) dL_law_1549 rfl (fun x2 D h => ?_)
  refine aw_iload (M := (M_law nm tb)) (n := 1554) dL_law_1552 rfl rfl ?_
  refine aw_icmp_eq (M := (M_law nm tb)) (n := 1557) (tgt := 1559) dL_law_1554 rfl (by decide) (fun c => ?_) (fun c => ?_)
  rotate_left
  · exact aZ1 (Ok.dn (Ok.iff h c) :).1
  replace h := Ok.ift h c
  refine aw_iload (M := (M_law nm tb)) (n := 1561) dL_law_1559 rfl rfl ?_
  refine aw_if_ne (M := (M_law nm tb)) (n := 1564) (tgt := 1576) dL_law_1561 rfl (by decide) (fun c => ?_) (fun c => ?_)
  · exact aw_goto (M := (M_law nm tb)) (tgt := 1683) dL_law_1576 (by decide) (aw_le' (al' := [some (.ref 30000), some (.ref 0), some (.ref 88), some (.ref 132), some (.int i), none, none]) (aw_wid (by omega) (by omega) (KT _ (Ok.dn (Ok.ift h c) :).2)) (by exact ⟨rfl, rfl, rfl, rfl, rfl, trivial⟩))
  replace h := Ok.iff h (fun z => z c)
  refine aw_aload_n (M := (M_law nm tb)) (n := 1565) (i := 3) dL_law_1564 rfl rfl rfl ?_
  refine aw_iconst (M := (M_law nm tb)) (n := 1566) (v := 0) dL_law_1565 rfl (by decide) ?_
  refine aw_laload (M := (M_law nm tb)) (n := 1567) hG.1 (sF_132 hS) (aIn_in (i := 0) (n := 1) rfl) dL_law_1566 rfl ?_
  refine aw_iload (M := (M_law nm tb)) (n := 1569) dL_law_1567 rfl rfl ?_
  refine aw_i2l (M := (M_law nm tb)) (n := 1570) dL_law_1569 rfl ?_
  refine aw_lcmp (M := (M_law nm tb)) (n := 1571) dL_law_1570 rfl ?_
  refine aw_if_eq (M := (M_law nm tb)) (n := 1574) (tgt := 1576) dL_law_1571 rfl (by decide) (fun c => ?_) (fun c => ?_)
  rotate_left
  · exact aZ1 (Ok.dn (Ok.iff h c) :).1
  replace h := Ok.ift h c
  refine aw_goto (M := (M_law nm tb)) (tgt := 1683) dL_law_1576 (by decide) ?_
  exact aw_le' (al' := [some (.ref 30000), some (.ref 0), some (.ref 88), some (.ref 132), some (.int i), none, none]) (aw_wid (by omega) (by omega) (KT _ (Ok.dn h :).2)) (by exact ⟨rfl, rfl, rfl, rfl, rfl, trivial⟩)
theorem lw_L_168 : aLkX "NoseTownLaw" 168 M_L_days ∧ aNp M_L_days = some 5 := ⟨⟨aU_6 108 rfl rfl, aU_6 109 rfl rfl, aU_1 0 rfl rfl, aU_6 110 rfl rfl, ⟨by decide +kernel, by decide +kernel⟩⟩, by decide +kernel⟩
theorem lw_L_170 : aLkV "NoseTownLaw" 170 12 M_X12_days ∧ aNp M_X12_days = some 3 := ⟨⟨aU_8 177 rfl rfl, aU_8 178 rfl rfl, aU_8 179 rfl rfl, aU_1 14 rfl rfl, aU_8 180 rfl rfl, ⟨TX12, 66, rfl⟩, ⟨by decide +kernel, by decide +kernel⟩⟩, by decide +kernel⟩
def f_law_24 (v1 v2 v3 v4 v5 : Int32) (D : aD) : Option (Int32 × aD) :=
  aBi (f_L_days v1 v2 v3 D) (fun x0 D => aBi (f_X12_days v1 v2 v3 D) (fun x1 D => aBi (f_X12_thrown D) (fun x2 D => if x2 = x0 then if x0 ≠ 0 then some (1, D) else if (lg_cmp (gJ D 132 0) x1.toInt64) = 0 then some (1, D) else some (0, D) else some (0, D))))
set_option maxRecDepth 100000 in
set_option maxHeartbeats 1000000 in
theorem law_case_24 {G : aG} (hG : gOK G) (hN : va_Nc "java/lang/IllegalArgumentException" "java/util/NoSuchElementException" (gs G)) {shp : List aSh} (hS : aShp shp) {nm : String} {tb : List (Nat × Nat × Nat × Nat)} {fr : Option Nat} {kc ks : Nat} {i : Int32} {D : aD} {Q : aQ} {P : aD → Prop} (hi : ∀ c : Nat, c < 6 → vp_in (i + Int32.ofNat c) (gL G)) (hkc : kc + 4 ≤ 601024) (hks : ks + 24 ≤ 7293034) (h : Ok2 (f_law_24 (gx G (i + 1).toNatClampNeg) (gx G (i + 2).toNatClampNeg) (gx G (i + 3).toNatClampNeg) (gx G (i + 4).toNatClampNeg) (gx G (i + 5).toNatClampNeg) D) (fun r D => r = 1 ∧ P D)) (KT : ∀ D : aD, P D → AW G (aRm 1024 601024 7293034) (M_law nm tb) fr (kc + 4) (ks + 24) 1683 [some (.ref 30000), some (.ref 0), some (.ref 88), some (.ref 132), some (.int i), none, none] [] shp D Q) : AW G (aRm 1024 601024 7293034) (M_law nm tb) fr kc ks 1579 [some (.ref 30000), some (.ref 0), some (.ref 88), some (.ref 132), some (.int i), none, none] [] shp D Q := by
  unfold f_law_24 at h
  replace h := Ok2.ok h
  refine aw_aload_n (M := (M_law nm tb)) (n := 1580) (i := 1) dL_law_1579 rfl rfl rfl ?_
  refine aw_aload_n (M := (M_law nm tb)) (n := 1581) (i := 0) dL_law_1580 rfl rfl rfl ?_
  refine aw_iload (M := (M_law nm tb)) (n := 1583) dL_law_1581 rfl rfl ?_
  refine aw_iconst (M := (M_law nm tb)) (n := 1584) (v := 1) dL_law_1583 rfl (by decide) ?_
  refine aw_iadd (M := (M_law nm tb)) (n := 1585) dL_law_1584 rfl ?_
  refine aw_sld (M := (M_law nm tb)) (n := 1586) hG.2.1 hG.2.2.1 (hi 1 (by decide)) dL_law_1585 rfl ?_
  refine aw_aload_n (M := (M_law nm tb)) (n := 1587) (i := 0) dL_law_1586 rfl rfl rfl ?_
  refine aw_iload (M := (M_law nm tb)) (n := 1589) dL_law_1587 rfl rfl ?_
  refine aw_iconst (M := (M_law nm tb)) (n := 1590) (v := 2) dL_law_1589 rfl (by decide) ?_
  refine aw_iadd (M := (M_law nm tb)) (n := 1591) dL_law_1590 rfl ?_
  refine aw_sld (M := (M_law nm tb)) (n := 1592) hG.2.1 hG.2.2.1 (hi 2 (by decide)) dL_law_1591 rfl ?_
  refine aw_aload_n (M := (M_law nm tb)) (n := 1593) (i := 0) dL_law_1592 rfl rfl rfl ?_
  refine aw_iload (M := (M_law nm tb)) (n := 1595) dL_law_1593 rfl rfl ?_
  refine aw_iconst (M := (M_law nm tb)) (n := 1596) (v := 3) dL_law_1595 rfl (by decide) ?_
  refine aw_iadd (M := (M_law nm tb)) (n := 1597) dL_law_1596 rfl ?_
  refine aw_sld (M := (M_law nm tb)) (n := 1598) hG.2.1 hG.2.2.1 (hi 3 (by decide)) dL_law_1597 rfl ?_
  refine aw_aload_n (M := (M_law nm tb)) (n := 1599) (i := 3) dL_law_1598 rfl rfl rfl ?_
  refine aw_cXi (M := (M_law nm tb)) (n := 1602) (As := [.ref 0, .int (gx G (i + 1).toNatClampNeg), .int (gx G (i + 2).toNatClampNeg), .int (gx G (i + 3).toNatClampNeg), .ref 132]) (rest := []) lw_L_168 rfl rfl (c_L_days hG hN hS (h := Ok.bi h)) (by decide) (Nat.le_of_ble_eq_true rfl) (by omega) (by omega) dL_law_1599 rfl (fun x0 D h => ?_)
  refine aw_istore (M := (M_law nm tb)) (n := 1604) (al' := [some (.ref 30000), some (.ref 0), some (.ref 88), some (.ref 132), some (.int i), some (.int x0), none]) dL_law_1602 rfl rfl (Nat.le_of_ble_eq_true rfl) rfl ?_
  refine aw_aload_n (M := (M_law nm tb)) (n := 1605) (i := 2) dL_law_1604 rfl rfl rfl ?_
  refine aw_aload_n (M := (M_law nm tb)) (n := 1606) (i := 0) dL_law_1605 rfl rfl rfl ?_
  refine aw_iload (M := (M_law nm tb)) (n := 1608) dL_law_1606 rfl rfl ?_
  refine aw_iconst (M := (M_law nm tb)) (n := 1609) (v := 1) dL_law_1608 rfl (by decide) ?_
  refine aw_iadd (M := (M_law nm tb)) (n := 1610) dL_law_1609 rfl ?_
  refine aw_sld (M := (M_law nm tb)) (n := 1611) hG.2.1 hG.2.2.1 (hi 1 (by decide)) dL_law_1610 rfl ?_
  refine aw_aload_n (M := (M_law nm tb)) (n := 1612) (i := 0) dL_law_1611 rfl rfl rfl ?_
  refine aw_iload (M := (M_law nm tb)) (n := 1614) dL_law_1612 rfl rfl ?_
  refine aw_iconst (M := (M_law nm tb)) (n := 1615) (v := 2) dL_law_1614 rfl (by decide) ?_
  refine aw_iadd (M := (M_law nm tb)) (n := 1616) dL_law_1615 rfl ?_
  refine aw_sld (M := (M_law nm tb)) (n := 1617) hG.2.1 hG.2.2.1 (hi 2 (by decide)) dL_law_1616 rfl ?_
  refine aw_aload_n (M := (M_law nm tb)) (n := 1618) (i := 0) dL_law_1617 rfl rfl rfl ?_
  refine aw_iload (M := (M_law nm tb)) (n := 1620) dL_law_1618 rfl rfl ?_
  refine aw_iconst (M := (M_law nm tb)) (n := 1621) (v := 3) dL_law_1620 rfl (by decide) ?_
  refine aw_iadd (M := (M_law nm tb)) (n := 1622) dL_law_1621 rfl ?_
  refine aw_sld (M := (M_law nm tb)) (n := 1623) hG.2.1 hG.2.2.1 (hi 3 (by decide)) dL_law_1622 rfl ?_
  refine aw_cVi (M := (M_law nm tb)) (n := 1626) (As := [.int (gx G (i + 1).toNatClampNeg), .int (gx G (i + 2).toNatClampNeg), .int (gx G (i + 3).toNatClampNeg)]) (rest := []) hG.1 lw_L_170 rfl rfl (sF_88 hS) (c_X12_days hG hS (h := Ok.bi h)) (by decide) (Nat.le_of_ble_eq_true rfl) (by omega) (by omega) dL_law_1623 rfl (fun x1 D h => ?_)
  refine aw_istore (M := (M_law nm tb)) (n := 1628) (al' := [some (.ref 30000), some (.ref 0), some (.ref 88), some (.ref 132), some (.int i), some (.int x0), some (.int x1)]) dL_law_1626 rfl rfl (Nat.le_of_ble_eq_true rfl) rfl ?_
  refine aw_aload_n (M := (M_law nm tb)) (n := 1629) (i := 2) dL_law_1628 rfl rfl rfl ?_
  refine aw_cVi (M := (M_law nm tb)) (n := 1632) (As := []) (rest := []) hG.1 lw_L_86 rfl rfl (sF_88 hS) (c_X12_thrown hG hS (h := Ok.bi h)) (by decide) (Nat.le_of_ble_eq_true rfl) (by omega) (by omega) dL_law_1629 rfl (fun x2 D h => ?_)
  refine aw_iload (M := (M_law nm tb)) (n := 1634) dL_law_1632 rfl rfl ?_
  refine aw_icmp_eq (M := (M_law nm tb)) (n := 1637) (tgt := 1639) dL_law_1634 rfl (by decide) (fun c => ?_) (fun c => ?_)
  rotate_left
  · exact aZ1 (Ok.dn (Ok.iff h c) :).1
  replace h := Ok.ift h c
  refine aw_iload (M := (M_law nm tb)) (n := 1641) dL_law_1639 rfl rfl ?_
  refine aw_if_ne (M := (M_law nm tb)) (n := 1644) (tgt := 1656) dL_law_1641 rfl (by decide) (fun c => ?_) (fun c => ?_)
  · exact aw_goto (M := (M_law nm tb)) (tgt := 1683) dL_law_1656 (by decide) (aw_le' (al' := [some (.ref 30000), some (.ref 0), some (.ref 88), some (.ref 132), some (.int i), none, none]) (aw_wid (by omega) (by omega) (KT _ (Ok.dn (Ok.ift h c) :).2)) (by exact ⟨rfl, rfl, rfl, rfl, rfl, trivial⟩))
  replace h := Ok.iff h (fun z => z c)
  refine aw_aload_n (M := (M_law nm tb)) (n := 1645) (i := 3) dL_law_1644 rfl rfl rfl ?_
  refine aw_iconst (M := (M_law nm tb)) (n := 1646) (v := 0) dL_law_1645 rfl (by decide) ?_
  refine aw_laload (M := (M_law nm tb)) (n := 1647) hG.1 (sF_132 hS) (aIn_in (i := 0) (n := 1) rfl) dL_law_1646 rfl ?_
  refine aw_iload (M := (M_law nm tb)) (n := 1649) dL_law_1647 rfl rfl ?_
  refine aw_i2l (M := (M_law nm tb)) (n := 1650) dL_law_1649 rfl ?_
  refine aw_lcmp (M := (M_law nm tb)) (n := 1651) dL_law_1650 rfl ?_
  refine aw_if_eq (M := (M_law nm tb)) (n := 1654) (tgt := 1656) dL_law_1651 rfl (by decide) (fun c => ?_) (fun c => ?_)
  rotate_left
  · exact aZ1 (Ok.dn (Ok.iff h c) :).1
  replace h := Ok.ift h c
  refine aw_goto (M := (M_law nm tb)) (tgt := 1683) dL_law_1656 (by decide) ?_
  exact aw_le' (al' := [some (.ref 30000), some (.ref 0), some (.ref 88), some (.ref 132), some (.int i), none, none]) (aw_wid (by omega) (by omega) (KT _ (Ok.dn h :).2)) (by exact ⟨rfl, rfl, rfl, rfl, rfl, trivial⟩)
theorem lw_L_171 : aLkV "NoseTownLaw" 171 11 M_X11_image ∧ aNp M_X11_image = some 0 := ⟨⟨aU_4 26 rfl rfl, aU_4 27 rfl rfl, aU_4 28 rfl rfl, aU_1 1 rfl rfl, aU_4 29 rfl rfl, ⟨TX11, 14, rfl⟩, ⟨by decide +kernel, by decide +kernel⟩⟩, by decide +kernel⟩
theorem lw_L_174 : aLkV "NoseTownLaw" 174 12 M_X12_image ∧ aNp M_X12_image = some 0 := ⟨⟨aU_8 182 rfl rfl, aU_8 183 rfl rfl, aU_8 184 rfl rfl, aU_1 14 rfl rfl, aU_8 185 rfl rfl, ⟨TX12, 66, rfl⟩, ⟨by decide +kernel, by decide +kernel⟩⟩, by decide +kernel⟩
def f_law_25 (v1 v2 v3 v4 v5 : Int32) (D : aD) : Option (Int32 × aD) :=
  (f_X11_image D).bind (fun D => (f_X12_image D).bind (fun D => some (1, D)))
set_option maxRecDepth 100000 in
set_option maxHeartbeats 1000000 in
theorem law_case_25 {G : aG} (hG : gOK G) (hN : va_Nc "java/lang/IllegalArgumentException" "java/util/NoSuchElementException" (gs G)) {shp : List aSh} (hS : aShp shp) {nm : String} {tb : List (Nat × Nat × Nat × Nat)} {fr : Option Nat} {kc ks : Nat} {i : Int32} {D : aD} {Q : aQ} {P : aD → Prop} (hi : ∀ c : Nat, c < 6 → vp_in (i + Int32.ofNat c) (gL G)) (hkc : kc + 4 ≤ 601024) (hks : ks + 24 ≤ 7293034) (h : Ok2 (f_law_25 (gx G (i + 1).toNatClampNeg) (gx G (i + 2).toNatClampNeg) (gx G (i + 3).toNatClampNeg) (gx G (i + 4).toNatClampNeg) (gx G (i + 5).toNatClampNeg) D) (fun r D => r = 1 ∧ P D)) (KT : ∀ D : aD, P D → AW G (aRm 1024 601024 7293034) (M_law nm tb) fr (kc + 4) (ks + 24) 1683 [some (.ref 30000), some (.ref 0), some (.ref 88), some (.ref 132), some (.int i), none, none] [] shp D Q) : AW G (aRm 1024 601024 7293034) (M_law nm tb) fr kc ks 1659 [some (.ref 30000), some (.ref 0), some (.ref 88), some (.ref 132), some (.int i), none, none] [] shp D Q := by
  unfold f_law_25 at h
  replace h := Ok2.ok h
  refine aw_aload_n (M := (M_law nm tb)) (n := 1660) (i := 1) dL_law_1659 rfl rfl rfl ?_
  refine aw_cVv (M := (M_law nm tb)) (n := 1663) (As := []) (rest := []) hG.1 lw_L_171 rfl rfl (sF_0 hS) (c_X11_image hG hS (h := Ok.bind h)) (by decide) (Nat.le_of_ble_eq_true rfl) (by omega) (by omega) dL_law_1660 rfl (fun D h => ?_)
  refine aw_aload_n (M := (M_law nm tb)) (n := 1664) (i := 2) dL_law_1663 rfl rfl rfl ?_
  refine aw_cVv (M := (M_law nm tb)) (n := 1667) (As := []) (rest := []) hG.1 lw_L_174 rfl rfl (sF_88 hS) (c_X12_image hG hS (h := Ok.bind h)) (by decide) (Nat.le_of_ble_eq_true rfl) (by omega) (by omega) dL_law_1664 rfl (fun D h => ?_)
  refine aw_goto (M := (M_law nm tb)) (tgt := 1683) dL_law_1667 (by decide) ?_
  exact aw_le' (al' := [some (.ref 30000), some (.ref 0), some (.ref 88), some (.ref 132), some (.int i), none, none]) (aw_wid (by omega) (by omega) (KT _ (Ok.dn h :).2)) (by exact ⟨rfl, rfl, rfl, rfl, rfl, trivial⟩)
theorem lw_L_175 : aLkV "NoseTownLaw" 175 11 M_X11_restore ∧ aNp M_X11_restore = some 0 := ⟨⟨aU_4 35 rfl rfl, aU_4 36 rfl rfl, aU_4 37 rfl rfl, aU_1 1 rfl rfl, aU_4 38 rfl rfl, ⟨TX11, 14, rfl⟩, ⟨by decide +kernel, by decide +kernel⟩⟩, by decide +kernel⟩
theorem lw_L_179 : aLkV "NoseTownLaw" 179 12 M_X12_restore ∧ aNp M_X12_restore = some 0 := ⟨⟨aU_8 186 rfl rfl, aU_8 187 rfl rfl, aU_8 188 rfl rfl, aU_1 14 rfl rfl, aU_8 189 rfl rfl, ⟨TX12, 66, rfl⟩, ⟨by decide +kernel, by decide +kernel⟩⟩, by decide +kernel⟩
def f_law_26 (v1 v2 v3 v4 v5 : Int32) (D : aD) : Option (Int32 × aD) :=
  aBi (f_X11_restore D) (fun x0 D => aBi (f_X12_restore D) (fun x1 D => if x0 = x1 then some (1, D) else some (0, D)))
set_option maxRecDepth 100000 in
set_option maxHeartbeats 1000000 in
theorem law_case_26 {G : aG} (hG : gOK G) (hN : va_Nc "java/lang/IllegalArgumentException" "java/util/NoSuchElementException" (gs G)) {shp : List aSh} (hS : aShp shp) {nm : String} {tb : List (Nat × Nat × Nat × Nat)} {fr : Option Nat} {kc ks : Nat} {i : Int32} {D : aD} {Q : aQ} {P : aD → Prop} (hi : ∀ c : Nat, c < 6 → vp_in (i + Int32.ofNat c) (gL G)) (hkc : kc + 4 ≤ 601024) (hks : ks + 24 ≤ 7293034) (h : Ok2 (f_law_26 (gx G (i + 1).toNatClampNeg) (gx G (i + 2).toNatClampNeg) (gx G (i + 3).toNatClampNeg) (gx G (i + 4).toNatClampNeg) (gx G (i + 5).toNatClampNeg) D) (fun r D => r = 1 ∧ P D)) (KT : ∀ D : aD, P D → AW G (aRm 1024 601024 7293034) (M_law nm tb) fr (kc + 4) (ks + 24) 1683 [some (.ref 30000), some (.ref 0), some (.ref 88), some (.ref 132), some (.int i), none, none] [] shp D Q) : AW G (aRm 1024 601024 7293034) (M_law nm tb) fr kc ks 1670 [some (.ref 30000), some (.ref 0), some (.ref 88), some (.ref 132), some (.int i), none, none] [] shp D Q := by
  unfold f_law_26 at h
  replace h := Ok2.ok h
  refine aw_aload_n (M := (M_law nm tb)) (n := 1671) (i := 1) dL_law_1670 rfl rfl rfl ?_
  refine aw_cVi (M := (M_law nm tb)) (n := 1674) (As := []) (rest := []) hG.1 lw_L_175 rfl rfl (sF_0 hS) (c_X11_restore hG hS (h := Ok.bi h)) (by decide) (Nat.le_of_ble_eq_true rfl) (by omega) (by omega) dL_law_1671 rfl (fun x0 D h => ?_)
  refine aw_aload_n (M := (M_law nm tb)) (n := 1675) (i := 2) dL_law_1674 rfl rfl rfl ?_
  refine aw_cVi (M := (M_law nm tb)) (n := 1678) (As := []) (rest := [.int x0]) hG.1 lw_L_179 rfl rfl (sF_88 hS) (c_X12_restore hG hS (h := Ok.bi h)) (by decide) (Nat.le_of_ble_eq_true rfl) (by omega) (by omega) dL_law_1675 rfl (fun x1 D h => ?_)
  refine aw_icmp_eq (M := (M_law nm tb)) (n := 1681) (tgt := 1683) dL_law_1678 rfl (by decide) (fun c => ?_) (fun c => ?_)
  rotate_left
  · exact aZ1 (Ok.dn (Ok.iff h c) :).1
  replace h := Ok.ift h c
  exact aw_le' (al' := [some (.ref 30000), some (.ref 0), some (.ref 88), some (.ref 132), some (.int i), none, none]) (aw_wid (by omega) (by omega) (KT _ (Ok.dn h :).2)) (by exact ⟨rfl, rfl, rfl, rfl, rfl, trivial⟩)
def f_law (k : Nat) (v1 v2 v3 v4 v5 : Int32) (D : aD) : Option (Int32 × aD) := match k with
  | 0 => f_law_0 v1 v2 v3 v4 v5 D
  | 1 => f_law_1 v1 v2 v3 v4 v5 D
  | 2 => f_law_2 v1 v2 v3 v4 v5 D
  | 3 => f_law_3 v1 v2 v3 v4 v5 D
  | 4 => f_law_4 v1 v2 v3 v4 v5 D
  | 5 => f_law_5 v1 v2 v3 v4 v5 D
  | 6 => f_law_6 v1 v2 v3 v4 v5 D
  | 7 => f_law_7 v1 v2 v3 v4 v5 D
  | 8 => f_law_8 v1 v2 v3 v4 v5 D
  | 9 => f_law_9 v1 v2 v3 v4 v5 D
  | 10 => f_law_10 v1 v2 v3 v4 v5 D
  | 11 => f_law_11 v1 v2 v3 v4 v5 D
  | 12 => f_law_12 v1 v2 v3 v4 v5 D
  | 13 => f_law_13 v1 v2 v3 v4 v5 D
  | 14 => f_law_14 v1 v2 v3 v4 v5 D
  | 15 => f_law_15 v1 v2 v3 v4 v5 D
  | 16 => f_law_16 v1 v2 v3 v4 v5 D
  | 17 => f_law_17 v1 v2 v3 v4 v5 D
  | 18 => f_law_18 v1 v2 v3 v4 v5 D
  | 19 => f_law_19 v1 v2 v3 v4 v5 D
  | 20 => f_law_20 v1 v2 v3 v4 v5 D
  | 21 => f_law_21 v1 v2 v3 v4 v5 D
  | 22 => f_law_22 v1 v2 v3 v4 v5 D
  | 23 => f_law_23 v1 v2 v3 v4 v5 D
  | 24 => f_law_24 v1 v2 v3 v4 v5 D
  | 25 => f_law_25 v1 v2 v3 v4 v5 D
  | 26 => f_law_26 v1 v2 v3 v4 v5 D
  | _ => some (1, D)
