theorem dX12_grow_0 : decode cX12_grow 0 = .ok (.aload_n 0, 1) := by decide +kernel
theorem dX12_grow_1 : decode cX12_grow 1 = .ok (.iconst 0, 1) := by decide +kernel
theorem dX12_grow_2 : decode cX12_grow 2 = .ok (.putfield 157, 3) := by decide +kernel
theorem dX12_grow_5 : decode cX12_grow 5 = .ok (.aload_n 0, 1) := by decide +kernel
theorem dX12_grow_6 : decode cX12_grow 6 = .ok (.iload_n 1, 1) := by decide +kernel
theorem dX12_grow_7 : decode cX12_grow 7 = .ok (.invokevirtual 343, 3) := by decide +kernel
theorem dX12_grow_10 : decode cX12_grow 10 = .ok (.ifCond .eq 12, 3) := by decide +kernel
theorem dX12_grow_13 : decode cX12_grow 13 = .ok (.iload_n 2, 1) := by decide +kernel
theorem dX12_grow_14 : decode cX12_grow 14 = .ok (.ifCond .lt 8, 3) := by decide +kernel
theorem dX12_grow_17 : decode cX12_grow 17 = .ok (.iload_n 2, 1) := by decide +kernel
theorem dX12_grow_18 : decode cX12_grow 18 = .ok (.iconst 1, 1) := by decide +kernel
theorem dX12_grow_19 : decode cX12_grow 19 = .ok (.if_icmp .le 9, 3) := by decide +kernel
theorem dX12_grow_22 : decode cX12_grow 22 = .ok (.aload_n 0, 1) := by decide +kernel
theorem dX12_grow_23 : decode cX12_grow 23 = .ok (.iconst 1, 1) := by decide +kernel
theorem dX12_grow_24 : decode cX12_grow 24 = .ok (.invokevirtual 290, 3) := by decide +kernel
theorem dX12_grow_27 : decode cX12_grow 27 = .ok (.ireturn, 1) := by decide +kernel
theorem dX12_grow_28 : decode cX12_grow 28 = .ok (.iconst (-1), 1) := by decide +kernel
theorem dX12_grow_29 : decode cX12_grow 29 = .ok (.istore_n 3, 1) := by decide +kernel
theorem dX12_grow_30 : decode cX12_grow 30 = .ok (.iconst (-1), 1) := by decide +kernel
theorem dX12_grow_31 : decode cX12_grow 31 = .ok (.istore 4, 2) := by decide +kernel
theorem dX12_grow_33 : decode cX12_grow 33 = .ok (.iconst 0, 1) := by decide +kernel
theorem dX12_grow_34 : decode cX12_grow 34 = .ok (.istore 5, 2) := by decide +kernel
theorem dX12_grow_36 : decode cX12_grow 36 = .ok (.iload 5, 2) := by decide +kernel
theorem dX12_grow_38 : decode cX12_grow 38 = .ok (.aload_n 0, 1) := by decide +kernel
theorem dX12_grow_39 : decode cX12_grow 39 = .ok (.getfield 27, 3) := by decide +kernel
theorem dX12_grow_42 : decode cX12_grow 42 = .ok (.iconst 2, 1) := by decide +kernel
theorem dX12_grow_43 : decode cX12_grow 43 = .ok (.iaload, 1) := by decide +kernel
theorem dX12_grow_44 : decode cX12_grow 44 = .ok (.if_icmp .ge 111, 3) := by decide +kernel
theorem dX12_grow_47 : decode cX12_grow 47 = .ok (.aload_n 0, 1) := by decide +kernel
theorem dX12_grow_48 : decode cX12_grow 48 = .ok (.getfield 303, 3) := by decide +kernel
theorem dX12_grow_51 : decode cX12_grow 51 = .ok (.bipush 12, 2) := by decide +kernel
theorem dX12_grow_53 : decode cX12_grow 53 = .ok (.if_icmp .ge 102, 3) := by decide +kernel
theorem dX12_grow_56 : decode cX12_grow 56 = .ok (.iconst 0, 1) := by decide +kernel
theorem dX12_grow_57 : decode cX12_grow 57 = .ok (.istore 6, 2) := by decide +kernel
theorem dX12_grow_59 : decode cX12_grow 59 = .ok (.iload 6, 2) := by decide +kernel
theorem dX12_grow_61 : decode cX12_grow 61 = .ok (.aload_n 0, 1) := by decide +kernel
theorem dX12_grow_62 : decode cX12_grow 62 = .ok (.getfield 27, 3) := by decide +kernel
theorem dX12_grow_65 : decode cX12_grow 65 = .ok (.iconst 0, 1) := by decide +kernel
theorem dX12_grow_66 : decode cX12_grow 66 = .ok (.iaload, 1) := by decide +kernel
theorem dX12_grow_67 : decode cX12_grow 67 = .ok (.aload_n 0, 1) := by decide +kernel
theorem dX12_grow_68 : decode cX12_grow 68 = .ok (.getfield 27, 3) := by decide +kernel
theorem dX12_grow_71 : decode cX12_grow 71 = .ok (.iconst 1, 1) := by decide +kernel
theorem dX12_grow_72 : decode cX12_grow 72 = .ok (.iaload, 1) := by decide +kernel
theorem dX12_grow_73 : decode cX12_grow 73 = .ok (.imul, 1) := by decide +kernel
theorem dX12_grow_74 : decode cX12_grow 74 = .ok (.if_icmp .ge 75, 3) := by decide +kernel
theorem dX12_grow_77 : decode cX12_grow 77 = .ok (.aload_n 0, 1) := by decide +kernel
theorem dX12_grow_78 : decode cX12_grow 78 = .ok (.iconst 0, 1) := by decide +kernel
theorem dX12_grow_79 : decode cX12_grow 79 = .ok (.aload_n 0, 1) := by decide +kernel
theorem dX12_grow_80 : decode cX12_grow 80 = .ok (.getfield 303, 3) := by decide +kernel
theorem dX12_grow_83 : decode cX12_grow 83 = .ok (.iload 6, 2) := by decide +kernel
theorem dX12_grow_85 : decode cX12_grow 85 = .ok (.invokevirtual 251, 3) := by decide +kernel
theorem dX12_grow_88 : decode cX12_grow 88 = .ok (.ifCond .eq 6, 3) := by decide +kernel
theorem dX12_grow_91 : decode cX12_grow 91 = .ok (.goto 52, 3) := by decide +kernel
theorem dX12_grow_94 : decode cX12_grow 94 = .ok (.aload_n 0, 1) := by decide +kernel
theorem dX12_grow_95 : decode cX12_grow 95 = .ok (.iload 5, 2) := by decide +kernel
theorem dX12_grow_97 : decode cX12_grow 97 = .ok (.iload 6, 2) := by decide +kernel
theorem dX12_grow_99 : decode cX12_grow 99 = .ok (.iload_n 1, 1) := by decide +kernel
theorem dX12_grow_100 : decode cX12_grow 100 = .ok (.invokevirtual 391, 3) := by decide +kernel
theorem dX12_grow_103 : decode cX12_grow 103 = .ok (.aload_n 0, 1) := by decide +kernel
theorem dX12_grow_104 : decode cX12_grow 104 = .ok (.iload_n 1, 1) := by decide +kernel
theorem dX12_grow_105 : decode cX12_grow 105 = .ok (.invokevirtual 362, 3) := by decide +kernel
theorem dX12_grow_108 : decode cX12_grow 108 = .ok (.istore 7, 2) := by decide +kernel
theorem dX12_grow_110 : decode cX12_grow 110 = .ok (.aload_n 0, 1) := by decide +kernel
theorem dX12_grow_111 : decode cX12_grow 111 = .ok (.dup, 1) := by decide +kernel
theorem dX12_grow_112 : decode cX12_grow 112 = .ok (.getfield 303, 3) := by decide +kernel
theorem dX12_grow_115 : decode cX12_grow 115 = .ok (.iconst 1, 1) := by decide +kernel
theorem dX12_grow_116 : decode cX12_grow 116 = .ok (.isub, 1) := by decide +kernel
theorem dX12_grow_117 : decode cX12_grow 117 = .ok (.putfield 303, 3) := by decide +kernel
theorem dX12_grow_120 : decode cX12_grow 120 = .ok (.iload 7, 2) := by decide +kernel
theorem dX12_grow_122 : decode cX12_grow 122 = .ok (.iload 4, 2) := by decide +kernel
theorem dX12_grow_124 : decode cX12_grow 124 = .ok (.if_icmp .gt 6, 3) := by decide +kernel
theorem dX12_grow_127 : decode cX12_grow 127 = .ok (.goto 16, 3) := by decide +kernel
theorem dX12_grow_130 : decode cX12_grow 130 = .ok (.iload 7, 2) := by decide +kernel
theorem dX12_grow_132 : decode cX12_grow 132 = .ok (.istore 4, 2) := by decide +kernel
theorem dX12_grow_134 : decode cX12_grow 134 = .ok (.bipush 64, 2) := by decide +kernel
theorem dX12_grow_136 : decode cX12_grow 136 = .ok (.iload 5, 2) := by decide +kernel
theorem dX12_grow_138 : decode cX12_grow 138 = .ok (.imul, 1) := by decide +kernel
theorem dX12_grow_139 : decode cX12_grow 139 = .ok (.iload 6, 2) := by decide +kernel
theorem dX12_grow_141 : decode cX12_grow 141 = .ok (.iadd, 1) := by decide +kernel
theorem dX12_grow_142 : decode cX12_grow 142 = .ok (.istore_n 3, 1) := by decide +kernel
theorem dX12_grow_143 : decode cX12_grow 143 = .ok (.iinc 6 1, 3) := by decide +kernel
theorem dX12_grow_146 : decode cX12_grow 146 = .ok (.goto (-87), 3) := by decide +kernel
theorem dX12_grow_149 : decode cX12_grow 149 = .ok (.iinc 5 1, 3) := by decide +kernel
theorem dX12_grow_152 : decode cX12_grow 152 = .ok (.goto (-116), 3) := by decide +kernel
theorem dX12_grow_155 : decode cX12_grow 155 = .ok (.iload_n 2, 1) := by decide +kernel
theorem dX12_grow_156 : decode cX12_grow 156 = .ok (.ifCond .ne 7, 3) := by decide +kernel
theorem dX12_grow_159 : decode cX12_grow 159 = .ok (.iload_n 3, 1) := by decide +kernel
theorem dX12_grow_160 : decode cX12_grow 160 = .ok (.goto 9, 3) := by decide +kernel
theorem dX12_grow_163 : decode cX12_grow 163 = .ok (.iconst 0, 1) := by decide +kernel
theorem dX12_grow_164 : decode cX12_grow 164 = .ok (.iload 4, 2) := by decide +kernel
theorem dX12_grow_166 : decode cX12_grow 166 = .ok (.invokestatic 326, 3) := by decide +kernel
theorem dX12_grow_169 : decode cX12_grow 169 = .ok (.ireturn, 1) := by decide +kernel
def J_X12_grow_155 (v2 : Int32) (v3 : Int32) (v4 : Int32) (D : aD) : Option (Int32 × aD) :=
  if v2 ≠ 0 then (some (if 0 < v4 then v4 else 0, D)) else (some (v3, D))
def J_X12_grow_149 (v1 : Int32) (v2 : Int32) (v3 : Int32) (v4 : Int32) (v5 : Int32) (D : aD) : Option ((Int32 × Int32 × Int32 × aD) ⊕ ((Int32 × Int32 × aD))) :=
  aLet (v5 + 1) (fun v5_9 => some (.inl (v3, v4, v5_9, D)))
def B_X12_grow_59 (v1 : Int32) (v2 : Int32) (v5 : Int32) (v3 : Int32) (v4 : Int32) (v6 : Int32) (D : aD) : Option ((Int32 × Int32 × Int32 × aD) ⊕ ((Int32 × Int32 × aD))) :=
  aGd (aIn 0 32) (aGd (aIn 1 32) (if (gI D 91 (0 : Int32).toNatClampNeg) * (gI D 91 (1 : Int32).toNatClampNeg) ≤ v6 then (some (.inr (v3, v4, D))) else (aBi (f_X12_hasPlant 0 (gI D 88 30) v6 D) (fun y_12 D_13 => if y_12 = 0 then ((f_X12_growAs v5 v6 v1 D_13).bind (fun D_14 => aBi (f_X12_weightsOf v1 D_14) (fun y_15 D_16 => aLet (pI D_16 88 30 ((gI D_16 88 30) - 1)) (fun D_17 => if v4 < y_15 then (aLet ((64 * v5) + v6) (fun v3_18 => aLet (v6 + 1) (fun v6_19 => some (.inl (v3_18, y_15, v6_19, D_17))))) else (aLet (v6 + 1) (fun v6_20 => some (.inl (v3, v4, v6_20, D_17)))))))) else (aLet (v6 + 1) (fun v6_21 => some (.inl (v3, v4, v6_21, D_13))))))))
def J_X12_grow_59 (v1 : Int32) (v2 : Int32) (v3 : Int32) (v4 : Int32) (v5 : Int32) (v6 : Int32) (D : aD) : Option ((Int32 × Int32 × Int32 × aD) ⊕ ((Int32 × Int32 × aD))) :=
  (aLp (fun s => B_X12_grow_59 v1 v2 v5 s.1 s.2.1 s.2.2.1 s.2.2.2) (v3, v4, v6, D)).bind (fun r => J_X12_grow_149 v1 v2 (r.1) (r.2.1) v5 r.2.2)
def B_X12_grow_36 (v1 : Int32) (v2 : Int32) (v3 : Int32) (v4 : Int32) (v5 : Int32) (D : aD) : Option ((Int32 × Int32 × Int32 × aD) ⊕ ((Int32 × Int32 × aD))) :=
  aGd (aIn 2 32) (if gI D 91 (2 : Int32).toNatClampNeg ≤ v5 then (some (.inr (v3, v4, D))) else (if 12 ≤ gI D 88 30 then (some (.inr (v3, v4, D))) else (J_X12_grow_59 v1 v2 v3 v4 v5 0 D)))
def J_X12_grow_36 (v1 : Int32) (v2 : Int32) (v3 : Int32) (v4 : Int32) (v5 : Int32) (D : aD) : Option (Int32 × aD) :=
  (aLp (fun s => B_X12_grow_36 v1 v2 s.1 s.2.1 s.2.2.1 s.2.2.2) (v3, v4, v5, D)).bind (fun r => J_X12_grow_155 v2 (r.1) (r.2.1) r.2.2)
def f_X12_grow (v1 : Int32) (v2 : Int32) (D : aD) : Option (Int32 × aD) :=
  aLet (pI D 88 2 0) (fun D_1 => aBi (f_X12_isGarden v1 D_1) (fun y_2 D_3 => if y_2 = 0 then (aBi (f_X12_fail 1 D_3) (fun y_4 D_5 => some (y_4, D_5))) else (if v2 < 0 then (aBi (f_X12_fail 1 D_3) (fun y_6 D_7 => some (y_6, D_7))) else (if v2 ≤ 1 then (J_X12_grow_36 v1 v2 (-1) (-1) 0 D_3) else (aBi (f_X12_fail 1 D_3) (fun y_22 D_23 => some (y_22, D_23)))))))
set_option maxRecDepth 100000 in
set_option maxHeartbeats 800000 in
theorem c_X12_grow {G : aG} (hG : gOK G) {shp : List aSh} (hS : aShp shp) {fr : Option Nat} {v1 : Int32} {v2 : Int32} {D : aD} {K : Int32 → aD → Prop} (h : Ok2 (f_X12_grow v1 v2 D) K) : AC G (aRm 7 0 0) M_X12_grow [.ref 88, .int v1, .int v2] fr shp D (aQi shp K) := by
  replace h := Ok2.ok h
  unfold f_X12_grow at h
  refine AC.of (al := [some (.ref 88), some (.int v1), some (.int v2), none, none, none, none, none]) (r := 5) (by decide) (Nat.le_of_ble_eq_true rfl) rfl ?_
  have hJ_155 : ∀ (v2 : Int32) (v3 : Int32) (v4 : Int32) (D : aD), Ok (J_X12_grow_155 v2 v3 v4 D) (fun r => K r.1 r.2) → AW G (aRm 7 0 0) M_X12_grow fr 0 0 155 [none, none, some (.int v2), some (.int v3), some (.int v4), none, none, none] [] shp D (aQi shp K) := by
    intro v2 v3 v4 D h
    unfold J_X12_grow_155 at h
    refine aw_iload_n (n := 156) (i := 2) dX12_grow_155 rfl rfl rfl ?_
    refine aw_if_ne (n := 159) (tgt := 163) dX12_grow_156 rfl (by decide) (fun c => ?_) (fun c => ?_)
    · replace h := Ok.ift h c
      refine aw_iconst (n := 164) (v := 0) dX12_grow_163 rfl (by decide) ?_
      refine aw_iload (n := 166) (i := 4) dX12_grow_164 rfl rfl ?_
      refine aw_max (M := M_X12_grow) (n := 169) lm_RX12_326 mm_max.1 mm_max.2.1 mm_max.2.2 (by decide) (Nat.le_of_ble_eq_true rfl) (by decide) (by decide) dX12_grow_166 rfl ?_
      exact aw_iret rfl (by decide) (by decide) dX12_grow_169 ⟨_, rfl, rfl, (Ok.dn h :)⟩
    · replace h := Ok.iffn h c
      refine aw_iload_n (n := 160) (i := 3) dX12_grow_159 rfl rfl rfl ?_
      refine aw_goto (tgt := 169) dX12_grow_160 (by decide) ?_
      exact aw_iret rfl (by decide) (by decide) dX12_grow_169 ⟨_, rfl, rfl, (Ok.dn h :)⟩
  have hJ_36 : ∀ (v1 : Int32) (v2 : Int32) (v3 : Int32) (v4 : Int32) (v5 : Int32) (D : aD), Ok (J_X12_grow_36 v1 v2 v3 v4 v5 D) (fun r => K r.1 r.2) → AW G (aRm 7 0 0) M_X12_grow fr 0 0 36 [some (.ref 88), some (.int v1), some (.int v2), some (.int v3), some (.int v4), some (.int v5), none, none] [] shp D (aQi shp K) := by
    intro v1 v2 v3 v4 v5 D h
    unfold J_X12_grow_36 at h
    refine Ok.lp (P := fun s => AW G (aRm 7 0 0) M_X12_grow fr 0 0 36 [some (.ref 88), some (.int v1), some (.int v2), some (.int (s.1)), some (.int (s.2.1)), some (.int (s.2.2.1)), none, none] [] shp s.2.2.2 (aQi shp K)) (fun s Kb36 hL36 hR36 h => ?_) (v3, v4, v5, D) (Ok.bind h)
    obtain ⟨v3, v4, v5, D⟩ := s
    replace h : Ok (B_X12_grow_36 v1 v2 v3 v4 v5 D) Kb36 := h
    unfold B_X12_grow_36 at h
    have hJ_149 : ∀ (v3 : Int32) (v4 : Int32) (v5 : Int32) (D : aD), Ok (J_X12_grow_149 v1 v2 v3 v4 v5 D) Kb36 → AW G (aRm 7 0 0) M_X12_grow fr 0 0 149 [some (.ref 88), some (.int v1), some (.int v2), some (.int v3), some (.int v4), some (.int v5), none, none] [] shp D (aQi shp K) := by
      intro v3 v4 v5 D h
      unfold J_X12_grow_149 at h
      obtain ⟨v5_9, e_v5_9, h⟩ := Ok.let_ h
      refine aw_iinc (n := 152) (al' := [some (.ref 88), some (.int v1), some (.int v2), some (.int v3), some (.int v4), some (.int v5_9), none, none]) dX12_grow_149 rfl rfl e_v5_9 (by decide) rfl ?_
      refine aw_goto (tgt := 36) dX12_grow_152 (by decide) ?_
      exact aw_le' (hL36 (v3, v4, v5_9, D) (Ok.dn h :)) ⟨rfl, ⟨rfl, ⟨rfl, ⟨rfl, ⟨rfl, ⟨rfl, trivial⟩⟩⟩⟩⟩⟩
    have hJ_59 : ∀ (v3 : Int32) (v4 : Int32) (v5 : Int32) (v6 : Int32) (D : aD), Ok (J_X12_grow_59 v1 v2 v3 v4 v5 v6 D) Kb36 → AW G (aRm 7 0 0) M_X12_grow fr 0 0 59 [some (.ref 88), some (.int v1), some (.int v2), some (.int v3), some (.int v4), some (.int v5), some (.int v6), none] [] shp D (aQi shp K) := by
      intro v3 v4 v5 v6 D h
      unfold J_X12_grow_59 at h
      refine Ok.lp (P := fun s => AW G (aRm 7 0 0) M_X12_grow fr 0 0 59 [some (.ref 88), some (.int v1), some (.int v2), some (.int (s.1)), some (.int (s.2.1)), some (.int v5), some (.int (s.2.2.1)), none] [] shp s.2.2.2 (aQi shp K)) (fun s Kb59 hL59 hR59 h => ?_) (v3, v4, v6, D) (Ok.bind h)
      obtain ⟨v3, v4, v6, D⟩ := s
      replace h : Ok (B_X12_grow_59 v1 v2 v5 v3 v4 v6 D) Kb59 := h
      unfold B_X12_grow_59 at h
      refine aw_iload (n := 61) (i := 6) dX12_grow_59 rfl rfl ?_
      refine aw_aload_n (n := 62) (i := 0) dX12_grow_61 rfl rfl rfl ?_
      refine aw_getR (n := 65) (j := 3) (r := 91) hG.1 fl_RX12_27 (sF_88 hS) rfl dX12_grow_62 rfl ?_
      refine aw_iconst (n := 66) (v := 0) dX12_grow_65 rfl (by decide) ?_
      obtain ⟨g_10, h⟩ := Ok.gd h
      refine aw_iaload (n := 67) hG.1 (sF_91 hS) (aIn_in g_10) dX12_grow_66 rfl ?_
      refine aw_aload_n (n := 68) (i := 0) dX12_grow_67 rfl rfl rfl ?_
      refine aw_getR (n := 71) (j := 3) (r := 91) hG.1 fl_RX12_27 (sF_88 hS) rfl dX12_grow_68 rfl ?_
      refine aw_iconst (n := 72) (v := 1) dX12_grow_71 rfl (by decide) ?_
      obtain ⟨g_11, h⟩ := Ok.gd h
      refine aw_iaload (n := 73) hG.1 (sF_91 hS) (aIn_in g_11) dX12_grow_72 rfl ?_
      refine aw_imul (n := 74) dX12_grow_73 rfl ?_
      refine aw_icmp_ge (n := 77) (tgt := 149) dX12_grow_74 rfl (by decide) (fun c => ?_) (fun c => ?_)
      · replace h := Ok.ift h c
        exact aw_le' (hJ_149 v3 v4 v5 D (hR59 (v3, v4, D) (Ok.dn h :))) ⟨rfl, ⟨rfl, ⟨rfl, ⟨rfl, ⟨rfl, ⟨rfl, trivial⟩⟩⟩⟩⟩⟩
      · replace h := Ok.iff h c
        refine aw_aload_n (n := 78) (i := 0) dX12_grow_77 rfl rfl rfl ?_
        refine aw_iconst (n := 79) (v := 0) dX12_grow_78 rfl (by decide) ?_
        refine aw_aload_n (n := 80) (i := 0) dX12_grow_79 rfl rfl rfl ?_
        refine aw_getI (n := 83) (j := 30) hG.1 fl_RX12_303 (sF_88 hS) rfl dX12_grow_80 rfl ?_
        refine aw_iload (n := 85) (i := 6) dX12_grow_83 rfl rfl ?_
        refine aw_cVi (M := M_X12_grow) (n := 88) (As := [.int 0, .int (gI D 88 30), .int v6]) (rest := []) hG.1 lk_RX12_251 rfl rfl (sF_88 hS) (c_X12_hasPlant hG hS (h := Ok.bi h)) (by decide) (Nat.le_of_ble_eq_true rfl) (by decide) (by decide) dX12_grow_85 rfl (fun y_12 D_13 h => ?_)
        refine aw_if_eq (n := 91) (tgt := 94) dX12_grow_88 rfl (by decide) (fun c => ?_) (fun c => ?_)
        · replace h := Ok.ift h c
          refine aw_aload_n (n := 95) (i := 0) dX12_grow_94 rfl rfl rfl ?_
          refine aw_iload (n := 97) (i := 5) dX12_grow_95 rfl rfl ?_
          refine aw_iload (n := 99) (i := 6) dX12_grow_97 rfl rfl ?_
          refine aw_iload_n (n := 100) (i := 1) dX12_grow_99 rfl rfl rfl ?_
          refine aw_cVv (M := M_X12_grow) (n := 103) (As := [.int v5, .int v6, .int v1]) (rest := []) hG.1 lk_RX12_391 rfl rfl (sF_88 hS) (c_X12_growAs hG hS (h := Ok.bind h)) (by decide) (Nat.le_of_ble_eq_true rfl) (by decide) (by decide) dX12_grow_100 rfl (fun D_14 h => ?_)
          refine aw_aload_n (n := 104) (i := 0) dX12_grow_103 rfl rfl rfl ?_
          refine aw_iload_n (n := 105) (i := 1) dX12_grow_104 rfl rfl rfl ?_
          refine aw_cVi (M := M_X12_grow) (n := 108) (As := [.int v1]) (rest := []) hG.1 lk_RX12_362 rfl rfl (sF_88 hS) (c_X12_weightsOf hG hS (h := Ok.bi h)) (by decide) (Nat.le_of_ble_eq_true rfl) (by decide) (by decide) dX12_grow_105 rfl (fun y_15 D_16 h => ?_)
          refine aw_istore (n := 110) (i := 7) (al' := [some (.ref 88), some (.int v1), some (.int v2), some (.int v3), some (.int v4), some (.int v5), some (.int v6), some (.int y_15)]) dX12_grow_108 rfl rfl (by decide) rfl ?_
          refine aw_aload_n (n := 111) (i := 0) dX12_grow_110 rfl rfl rfl ?_
          refine aw_dup (n := 112) dX12_grow_111 rfl rfl ?_
          refine aw_getI (n := 115) (j := 30) hG.1 fl_RX12_303 (sF_88 hS) rfl dX12_grow_112 rfl ?_
          refine aw_iconst (n := 116) (v := 1) dX12_grow_115 rfl (by decide) ?_
          refine aw_isub (n := 117) dX12_grow_116 rfl ?_
          obtain ⟨D_17, e_D_17, h⟩ := Ok.let_ h
          refine aw_putI (n := 120) (j := 30) hG.1 fl_RX12_303 (sF_88 hS) rfl e_D_17 dX12_grow_117 rfl ?_
          refine aw_iload (n := 122) (i := 7) dX12_grow_120 rfl rfl ?_
          refine aw_iload (n := 124) (i := 4) dX12_grow_122 rfl rfl ?_
          refine aw_icmp_gt (n := 127) (tgt := 130) dX12_grow_124 rfl (by decide) (fun c => ?_) (fun c => ?_)
          · replace h := Ok.ift h c
            refine aw_iload (n := 132) (i := 7) dX12_grow_130 rfl rfl ?_
            refine aw_istore (n := 134) (i := 4) (al' := [some (.ref 88), some (.int v1), some (.int v2), some (.int v3), some (.int y_15), some (.int v5), some (.int v6), some (.int y_15)]) dX12_grow_132 rfl rfl (by decide) rfl ?_
            refine aw_bipush (n := 136) (v := 64) dX12_grow_134 rfl (by decide) ?_
            refine aw_iload (n := 138) (i := 5) dX12_grow_136 rfl rfl ?_
            refine aw_imul (n := 139) dX12_grow_138 rfl ?_
            refine aw_iload (n := 141) (i := 6) dX12_grow_139 rfl rfl ?_
            refine aw_iadd (n := 142) dX12_grow_141 rfl ?_
            obtain ⟨v3_18, e_v3_18, h⟩ := Ok.let_ h
            refine aw_istore_n (n := 143) (i := 3) (al' := [some (.ref 88), some (.int v1), some (.int v2), some (.int v3_18), some (.int y_15), some (.int v5), some (.int v6), some (.int y_15)]) dX12_grow_142 rfl rfl e_v3_18 (by decide) rfl ?_
            obtain ⟨v6_19, e_v6_19, h⟩ := Ok.let_ h
            refine aw_iinc (n := 146) (al' := [some (.ref 88), some (.int v1), some (.int v2), some (.int v3_18), some (.int y_15), some (.int v5), some (.int v6_19), some (.int y_15)]) dX12_grow_143 rfl rfl e_v6_19 (by decide) rfl ?_
            refine aw_goto (tgt := 59) dX12_grow_146 (by decide) ?_
            exact aw_le' (hL59 (v3_18, y_15, v6_19, D_17) (Ok.dn h :)) ⟨rfl, ⟨rfl, ⟨rfl, ⟨rfl, ⟨rfl, ⟨rfl, ⟨rfl, trivial⟩⟩⟩⟩⟩⟩⟩
          · replace h := Ok.iff h c
            refine aw_goto (tgt := 143) dX12_grow_127 (by decide) ?_
            obtain ⟨v6_20, e_v6_20, h⟩ := Ok.let_ h
            refine aw_iinc (n := 146) (al' := [some (.ref 88), some (.int v1), some (.int v2), some (.int v3), some (.int v4), some (.int v5), some (.int v6_20), some (.int y_15)]) dX12_grow_143 rfl rfl e_v6_20 (by decide) rfl ?_
            refine aw_goto (tgt := 59) dX12_grow_146 (by decide) ?_
            exact aw_le' (hL59 (v3, v4, v6_20, D_17) (Ok.dn h :)) ⟨rfl, ⟨rfl, ⟨rfl, ⟨rfl, ⟨rfl, ⟨rfl, ⟨rfl, trivial⟩⟩⟩⟩⟩⟩⟩
        · replace h := Ok.iff h c
          refine aw_goto (tgt := 143) dX12_grow_91 (by decide) ?_
          obtain ⟨v6_21, e_v6_21, h⟩ := Ok.let_ h
          refine aw_iinc (n := 146) (al' := [some (.ref 88), some (.int v1), some (.int v2), some (.int v3), some (.int v4), some (.int v5), some (.int v6_21), none]) dX12_grow_143 rfl rfl e_v6_21 (by decide) rfl ?_
          refine aw_goto (tgt := 59) dX12_grow_146 (by decide) ?_
          exact aw_le' (hL59 (v3, v4, v6_21, D_13) (Ok.dn h :)) ⟨rfl, ⟨rfl, ⟨rfl, ⟨rfl, ⟨rfl, ⟨rfl, ⟨rfl, trivial⟩⟩⟩⟩⟩⟩⟩
    refine aw_iload (n := 38) (i := 5) dX12_grow_36 rfl rfl ?_
    refine aw_aload_n (n := 39) (i := 0) dX12_grow_38 rfl rfl rfl ?_
    refine aw_getR (n := 42) (j := 3) (r := 91) hG.1 fl_RX12_27 (sF_88 hS) rfl dX12_grow_39 rfl ?_
    refine aw_iconst (n := 43) (v := 2) dX12_grow_42 rfl (by decide) ?_
    obtain ⟨g_8, h⟩ := Ok.gd h
    refine aw_iaload (n := 44) hG.1 (sF_91 hS) (aIn_in g_8) dX12_grow_43 rfl ?_
    refine aw_icmp_ge (n := 47) (tgt := 155) dX12_grow_44 rfl (by decide) (fun c => ?_) (fun c => ?_)
    · replace h := Ok.ift h c
      exact aw_le' (hJ_155 v2 v3 v4 D (hR36 (v3, v4, D) (Ok.dn h :))) ⟨rfl, ⟨rfl, ⟨rfl, trivial⟩⟩⟩
    · replace h := Ok.iff h c
      refine aw_aload_n (n := 48) (i := 0) dX12_grow_47 rfl rfl rfl ?_
      refine aw_getI (n := 51) (j := 30) hG.1 fl_RX12_303 (sF_88 hS) rfl dX12_grow_48 rfl ?_
      refine aw_bipush (n := 53) (v := 12) dX12_grow_51 rfl (by decide) ?_
      refine aw_icmp_ge (n := 56) (tgt := 155) dX12_grow_53 rfl (by decide) (fun c => ?_) (fun c => ?_)
      · replace h := Ok.ift h c
        exact aw_le' (hJ_155 v2 v3 v4 D (hR36 (v3, v4, D) (Ok.dn h :))) ⟨rfl, ⟨rfl, ⟨rfl, trivial⟩⟩⟩
      · replace h := Ok.iff h c
        refine aw_iconst (n := 57) (v := 0) dX12_grow_56 rfl (by decide) ?_
        refine aw_istore (n := 59) (i := 6) (al' := [some (.ref 88), some (.int v1), some (.int v2), some (.int v3), some (.int v4), some (.int v5), some (.int 0), none]) dX12_grow_57 rfl rfl (by decide) rfl ?_
        exact aw_le' (hJ_59 v3 v4 v5 0 D h) ⟨rfl, ⟨rfl, ⟨rfl, ⟨rfl, ⟨rfl, ⟨rfl, ⟨rfl, trivial⟩⟩⟩⟩⟩⟩⟩
  refine aw_aload_n (n := 1) (i := 0) dX12_grow_0 rfl rfl rfl ?_
  refine aw_iconst (n := 2) (v := 0) dX12_grow_1 rfl (by decide) ?_
  obtain ⟨D_1, e_D_1, h⟩ := Ok.let_ h
  refine aw_putI (n := 5) (j := 2) hG.1 fl_RX12_157 (sF_88 hS) rfl e_D_1 dX12_grow_2 rfl ?_
  refine aw_aload_n (n := 6) (i := 0) dX12_grow_5 rfl rfl rfl ?_
  refine aw_iload_n (n := 7) (i := 1) dX12_grow_6 rfl rfl rfl ?_
  refine aw_cVi (M := M_X12_grow) (n := 10) (As := [.int v1]) (rest := []) hG.1 lk_RX12_343 rfl rfl (sF_88 hS) (c_X12_isGarden hG hS (h := Ok.bi h)) (by decide) (Nat.le_of_ble_eq_true rfl) (by decide) (by decide) dX12_grow_7 rfl (fun y_2 D_3 h => ?_)
  refine aw_if_eq (n := 13) (tgt := 22) dX12_grow_10 rfl (by decide) (fun c => ?_) (fun c => ?_)
  · replace h := Ok.ift h c
    refine aw_aload_n (n := 23) (i := 0) dX12_grow_22 rfl rfl rfl ?_
    refine aw_iconst (n := 24) (v := 1) dX12_grow_23 rfl (by decide) ?_
    refine aw_cVi (M := M_X12_grow) (n := 27) (As := [.int 1]) (rest := []) hG.1 lk_RX12_290 rfl rfl (sF_88 hS) (c_X12_fail hG hS (h := Ok.bi h)) (by decide) (Nat.le_of_ble_eq_true rfl) (by decide) (by decide) dX12_grow_24 rfl (fun y_4 D_5 h => ?_)
    exact aw_iret rfl (by decide) (by decide) dX12_grow_27 ⟨_, rfl, rfl, (Ok.dn h :)⟩
  · replace h := Ok.iff h c
    refine aw_iload_n (n := 14) (i := 2) dX12_grow_13 rfl rfl rfl ?_
    refine aw_if_lt (n := 17) (tgt := 22) dX12_grow_14 rfl (by decide) (fun c => ?_) (fun c => ?_)
    · replace h := Ok.ift h c
      refine aw_aload_n (n := 23) (i := 0) dX12_grow_22 rfl rfl rfl ?_
      refine aw_iconst (n := 24) (v := 1) dX12_grow_23 rfl (by decide) ?_
      refine aw_cVi (M := M_X12_grow) (n := 27) (As := [.int 1]) (rest := []) hG.1 lk_RX12_290 rfl rfl (sF_88 hS) (c_X12_fail hG hS (h := Ok.bi h)) (by decide) (Nat.le_of_ble_eq_true rfl) (by decide) (by decide) dX12_grow_24 rfl (fun y_6 D_7 h => ?_)
      exact aw_iret rfl (by decide) (by decide) dX12_grow_27 ⟨_, rfl, rfl, (Ok.dn h :)⟩
    · replace h := Ok.iff h c
      refine aw_iload_n (n := 18) (i := 2) dX12_grow_17 rfl rfl rfl ?_
      refine aw_iconst (n := 19) (v := 1) dX12_grow_18 rfl (by decide) ?_
      refine aw_icmp_le (n := 22) (tgt := 28) dX12_grow_19 rfl (by decide) (fun c => ?_) (fun c => ?_)
      · replace h := Ok.ift h c
        refine aw_iconst (n := 29) (v := (-1)) dX12_grow_28 rfl (by decide) ?_
        refine aw_istore_n (n := 30) (i := 3) (al' := [some (.ref 88), some (.int v1), some (.int v2), some (.int (-1)), none, none, none, none]) dX12_grow_29 rfl rfl rfl (by decide) rfl ?_
        refine aw_iconst (n := 31) (v := (-1)) dX12_grow_30 rfl (by decide) ?_
        refine aw_istore (n := 33) (i := 4) (al' := [some (.ref 88), some (.int v1), some (.int v2), some (.int (-1)), some (.int (-1)), none, none, none]) dX12_grow_31 rfl rfl (by decide) rfl ?_
        refine aw_iconst (n := 34) (v := 0) dX12_grow_33 rfl (by decide) ?_
        refine aw_istore (n := 36) (i := 5) (al' := [some (.ref 88), some (.int v1), some (.int v2), some (.int (-1)), some (.int (-1)), some (.int 0), none, none]) dX12_grow_34 rfl rfl (by decide) rfl ?_
        exact aw_le' (hJ_36 v1 v2 (-1) (-1) 0 D_3 h) ⟨rfl, ⟨rfl, ⟨rfl, ⟨rfl, ⟨rfl, ⟨rfl, trivial⟩⟩⟩⟩⟩⟩
      · replace h := Ok.iff h c
        refine aw_aload_n (n := 23) (i := 0) dX12_grow_22 rfl rfl rfl ?_
        refine aw_iconst (n := 24) (v := 1) dX12_grow_23 rfl (by decide) ?_
        refine aw_cVi (M := M_X12_grow) (n := 27) (As := [.int 1]) (rest := []) hG.1 lk_RX12_290 rfl rfl (sF_88 hS) (c_X12_fail hG hS (h := Ok.bi h)) (by decide) (Nat.le_of_ble_eq_true rfl) (by decide) (by decide) dX12_grow_24 rfl (fun y_22 D_23 h => ?_)
        exact aw_iret rfl (by decide) (by decide) dX12_grow_27 ⟨_, rfl, rfl, (Ok.dn h :)⟩
theorem dX12_differenceBy_0 : decode cX12_differenceBy 0 = .ok (.iconst 0, 1) := by decide +kernel
theorem dX12_differenceBy_1 : decode cX12_differenceBy 1 = .ok (.istore_n 2, 1) := by decide +kernel
theorem dX12_differenceBy_2 : decode cX12_differenceBy 2 = .ok (.iconst 0, 1) := by decide +kernel
theorem dX12_differenceBy_3 : decode cX12_differenceBy 3 = .ok (.istore_n 3, 1) := by decide +kernel
theorem dX12_differenceBy_4 : decode cX12_differenceBy 4 = .ok (.iload_n 3, 1) := by decide +kernel
theorem dX12_differenceBy_5 : decode cX12_differenceBy 5 = .ok (.iconst 5, 1) := by decide +kernel
theorem dX12_differenceBy_6 : decode cX12_differenceBy 6 = .ok (.if_icmp .ge 104, 3) := by decide +kernel
theorem dX12_differenceBy_9 : decode cX12_differenceBy 9 = .ok (.aload_n 0, 1) := by decide +kernel
theorem dX12_differenceBy_10 : decode cX12_differenceBy 10 = .ok (.getfield 27, 3) := by decide +kernel
theorem dX12_differenceBy_13 : decode cX12_differenceBy 13 = .ok (.bipush 10, 2) := by decide +kernel
theorem dX12_differenceBy_15 : decode cX12_differenceBy 15 = .ok (.iload_n 3, 1) := by decide +kernel
theorem dX12_differenceBy_16 : decode cX12_differenceBy 16 = .ok (.iadd, 1) := by decide +kernel
theorem dX12_differenceBy_17 : decode cX12_differenceBy 17 = .ok (.iaload, 1) := by decide +kernel
theorem dX12_differenceBy_18 : decode cX12_differenceBy 18 = .ok (.ifCond .ne 6, 3) := by decide +kernel
theorem dX12_differenceBy_21 : decode cX12_differenceBy 21 = .ok (.goto 83, 3) := by decide +kernel
theorem dX12_differenceBy_24 : decode cX12_differenceBy 24 = .ok (.aload_n 0, 1) := by decide +kernel
theorem dX12_differenceBy_25 : decode cX12_differenceBy 25 = .ok (.aload_n 1, 1) := by decide +kernel
theorem dX12_differenceBy_26 : decode cX12_differenceBy 26 = .ok (.iload_n 3, 1) := by decide +kernel
theorem dX12_differenceBy_27 : decode cX12_differenceBy 27 = .ok (.invokevirtual 349, 3) := by decide +kernel
theorem dX12_differenceBy_30 : decode cX12_differenceBy 30 = .ok (.aload_n 0, 1) := by decide +kernel
theorem dX12_differenceBy_31 : decode cX12_differenceBy 31 = .ok (.getfield 97, 3) := by decide +kernel
theorem dX12_differenceBy_34 : decode cX12_differenceBy 34 = .ok (.iconst 0, 1) := by decide +kernel
theorem dX12_differenceBy_35 : decode cX12_differenceBy 35 = .ok (.iaload, 1) := by decide +kernel
theorem dX12_differenceBy_36 : decode cX12_differenceBy 36 = .ok (.istore 4, 2) := by decide +kernel
theorem dX12_differenceBy_38 : decode cX12_differenceBy 38 = .ok (.aload_n 0, 1) := by decide +kernel
theorem dX12_differenceBy_39 : decode cX12_differenceBy 39 = .ok (.getfield 97, 3) := by decide +kernel
theorem dX12_differenceBy_42 : decode cX12_differenceBy 42 = .ok (.iconst 0, 1) := by decide +kernel
theorem dX12_differenceBy_43 : decode cX12_differenceBy 43 = .ok (.iaload, 1) := by decide +kernel
theorem dX12_differenceBy_44 : decode cX12_differenceBy 44 = .ok (.istore 5, 2) := by decide +kernel
theorem dX12_differenceBy_46 : decode cX12_differenceBy 46 = .ok (.iconst 1, 1) := by decide +kernel
theorem dX12_differenceBy_47 : decode cX12_differenceBy 47 = .ok (.istore 6, 2) := by decide +kernel
theorem dX12_differenceBy_49 : decode cX12_differenceBy 49 = .ok (.iload 6, 2) := by decide +kernel
theorem dX12_differenceBy_51 : decode cX12_differenceBy 51 = .ok (.aload_n 0, 1) := by decide +kernel
theorem dX12_differenceBy_52 : decode cX12_differenceBy 52 = .ok (.getfield 27, 3) := by decide +kernel
theorem dX12_differenceBy_55 : decode cX12_differenceBy 55 = .ok (.iconst 3, 1) := by decide +kernel
theorem dX12_differenceBy_56 : decode cX12_differenceBy 56 = .ok (.iaload, 1) := by decide +kernel
theorem dX12_differenceBy_57 : decode cX12_differenceBy 57 = .ok (.if_icmp .ge 37, 3) := by decide +kernel
theorem dX12_differenceBy_60 : decode cX12_differenceBy 60 = .ok (.iload 4, 2) := by decide +kernel
theorem dX12_differenceBy_62 : decode cX12_differenceBy 62 = .ok (.aload_n 0, 1) := by decide +kernel
theorem dX12_differenceBy_63 : decode cX12_differenceBy 63 = .ok (.getfield 97, 3) := by decide +kernel
theorem dX12_differenceBy_66 : decode cX12_differenceBy 66 = .ok (.iload 6, 2) := by decide +kernel
theorem dX12_differenceBy_68 : decode cX12_differenceBy 68 = .ok (.iaload, 1) := by decide +kernel
theorem dX12_differenceBy_69 : decode cX12_differenceBy 69 = .ok (.invokestatic 194, 3) := by decide +kernel
theorem dX12_differenceBy_72 : decode cX12_differenceBy 72 = .ok (.istore 4, 2) := by decide +kernel
theorem dX12_differenceBy_74 : decode cX12_differenceBy 74 = .ok (.iload 5, 2) := by decide +kernel
theorem dX12_differenceBy_76 : decode cX12_differenceBy 76 = .ok (.aload_n 0, 1) := by decide +kernel
theorem dX12_differenceBy_77 : decode cX12_differenceBy 77 = .ok (.getfield 97, 3) := by decide +kernel
theorem dX12_differenceBy_80 : decode cX12_differenceBy 80 = .ok (.iload 6, 2) := by decide +kernel
theorem dX12_differenceBy_82 : decode cX12_differenceBy 82 = .ok (.iaload, 1) := by decide +kernel
theorem dX12_differenceBy_83 : decode cX12_differenceBy 83 = .ok (.invokestatic 326, 3) := by decide +kernel
theorem dX12_differenceBy_86 : decode cX12_differenceBy 86 = .ok (.istore 5, 2) := by decide +kernel
theorem dX12_differenceBy_88 : decode cX12_differenceBy 88 = .ok (.iinc 6 1, 3) := by decide +kernel
theorem dX12_differenceBy_91 : decode cX12_differenceBy 91 = .ok (.goto (-42), 3) := by decide +kernel
theorem dX12_differenceBy_94 : decode cX12_differenceBy 94 = .ok (.iload_n 2, 1) := by decide +kernel
theorem dX12_differenceBy_95 : decode cX12_differenceBy 95 = .ok (.iload 5, 2) := by decide +kernel
theorem dX12_differenceBy_97 : decode cX12_differenceBy 97 = .ok (.iload 4, 2) := by decide +kernel
theorem dX12_differenceBy_99 : decode cX12_differenceBy 99 = .ok (.isub, 1) := by decide +kernel
theorem dX12_differenceBy_100 : decode cX12_differenceBy 100 = .ok (.invokestatic 326, 3) := by decide +kernel
theorem dX12_differenceBy_103 : decode cX12_differenceBy 103 = .ok (.istore_n 2, 1) := by decide +kernel
theorem dX12_differenceBy_104 : decode cX12_differenceBy 104 = .ok (.iinc 3 1, 3) := by decide +kernel
theorem dX12_differenceBy_107 : decode cX12_differenceBy 107 = .ok (.goto (-103), 3) := by decide +kernel
theorem dX12_differenceBy_110 : decode cX12_differenceBy 110 = .ok (.iload_n 2, 1) := by decide +kernel
theorem dX12_differenceBy_111 : decode cX12_differenceBy 111 = .ok (.ireturn, 1) := by decide +kernel
def J_X12_differenceBy_110 (a1 : Nat) (na1 : Nat) (v2 : Int32) (D : aD) : Option (Int32 × aD) :=
  some (v2, D)
def J_X12_differenceBy_94 (a1 : Nat) (na1 : Nat) (v2 : Int32) (v3 : Int32) (v4 : Int32) (v5 : Int32) (D : aD) : Option ((Int32 × Int32 × aD) ⊕ ((Int32 × aD))) :=
  aLet (if v2 < (v5 - v4) then (v5 - v4) else v2) (fun v2_7 => aLet (v3 + 1) (fun v3_8 => some (.inl (v2_7, v3_8, D))))
def B_X12_differenceBy_49 (a1 : Nat) (na1 : Nat) (v2 : Int32) (v3 : Int32) (v4 : Int32) (v5 : Int32) (v6 : Int32) (D : aD) : Option ((Int32 × Int32 × Int32 × aD) ⊕ ((Int32 × Int32 × aD))) :=
  aGd (aIn 3 32) (if gI D 91 (3 : Int32).toNatClampNeg ≤ v6 then (some (.inr (v4, v5, D))) else (aGd (aIn v6 5) (aLet (if (gI D 112 v6.toNatClampNeg) < v4 then (gI D 112 v6.toNatClampNeg) else v4) (fun v4_11 => aGd (aIn v6 5) (aLet (if v5 < (gI D 112 v6.toNatClampNeg) then (gI D 112 v6.toNatClampNeg) else v5) (fun v5_13 => aLet (v6 + 1) (fun v6_14 => some (.inl (v4_11, v5_13, v6_14, D)))))))))
def J_X12_differenceBy_49 (a1 : Nat) (na1 : Nat) (v2 : Int32) (v3 : Int32) (v4 : Int32) (v5 : Int32) (v6 : Int32) (D : aD) : Option ((Int32 × Int32 × aD) ⊕ ((Int32 × aD))) :=
  (aLp (fun s => B_X12_differenceBy_49 a1 na1 v2 v3 s.1 s.2.1 s.2.2.1 s.2.2.2) (v4, v5, v6, D)).bind (fun r => J_X12_differenceBy_94 a1 na1 v2 v3 (r.1) (r.2.1) r.2.2)
def B_X12_differenceBy_4 (a1 : Nat) (na1 : Nat) (v2 : Int32) (v3 : Int32) (D : aD) : Option ((Int32 × Int32 × aD) ⊕ ((Int32 × aD))) :=
  if 5 ≤ v3 then (some (.inr (v2, D))) else (aGd (aIn (10 + v3) 32) (if gI D 91 (10 + v3).toNatClampNeg ≠ 0 then ((f_X12_tellSums a1 na1 v3 D).bind (fun D_2 => aGd (aIn 0 5) (aLet (gI D_2 112 (0 : Int32).toNatClampNeg) (fun v4_4 => aGd (aIn 0 5) (aLet (gI D_2 112 (0 : Int32).toNatClampNeg) (fun v5_6 => J_X12_differenceBy_49 a1 na1 v2 v3 v4_4 v5_6 1 D_2)))))) else (aLet (v3 + 1) (fun v3_15 => some (.inl (v2, v3_15, D))))))
def J_X12_differenceBy_4 (a1 : Nat) (na1 : Nat) (v2 : Int32) (v3 : Int32) (D : aD) : Option (Int32 × aD) :=
  (aLp (fun s => B_X12_differenceBy_4 a1 na1 s.1 s.2.1 s.2.2) (v2, v3, D)).bind (fun r => J_X12_differenceBy_110 a1 na1 (r.1) r.2)
def f_X12_differenceBy (a1 : Nat) (na1 : Nat) (D : aD) : Option (Int32 × aD) :=
  J_X12_differenceBy_4 a1 na1 0 0 D
set_option maxRecDepth 100000 in
set_option maxHeartbeats 800000 in
theorem c_X12_differenceBy {G : aG} (hG : gOK G) {shp : List aSh} (hS : aShp shp) {fr : Option Nat} {a1 : Nat} {na1 : Nat} {D : aD} {K : Int32 → aD → Prop} (h : Ok2 (f_X12_differenceBy a1 na1 D) K) (ha1 : shp[a1]? = some (.inl (1, na1, []))) : AC G (aRm 5 0 0) M_X12_differenceBy [.ref 88, .ref a1] fr shp D (aQi shp K) := by
  replace h := Ok2.ok h
  unfold f_X12_differenceBy at h
  refine AC.of (al := [some (.ref 88), some (.ref a1), none, none, none, none, none]) (r := 5) (by decide) (Nat.le_of_ble_eq_true rfl) rfl ?_
  have hJ_110 : ∀ (v2 : Int32) (D : aD), Ok (J_X12_differenceBy_110 a1 na1 v2 D) (fun r => K r.1 r.2) → AW G (aRm 5 0 0) M_X12_differenceBy fr 0 0 110 [none, none, some (.int v2), none, none, none, none] [] shp D (aQi shp K) := by
    intro v2 D h
    unfold J_X12_differenceBy_110 at h
    refine aw_iload_n (n := 111) (i := 2) dX12_differenceBy_110 rfl rfl rfl ?_
    exact aw_iret rfl (by decide) (by decide) dX12_differenceBy_111 ⟨_, rfl, rfl, (Ok.dn h :)⟩
  have hJ_4 : ∀ (v2 : Int32) (v3 : Int32) (D : aD), Ok (J_X12_differenceBy_4 a1 na1 v2 v3 D) (fun r => K r.1 r.2) → AW G (aRm 5 0 0) M_X12_differenceBy fr 0 0 4 [some (.ref 88), some (.ref a1), some (.int v2), some (.int v3), none, none, none] [] shp D (aQi shp K) := by
    intro v2 v3 D h
    unfold J_X12_differenceBy_4 at h
    refine Ok.lp (P := fun s => AW G (aRm 5 0 0) M_X12_differenceBy fr 0 0 4 [some (.ref 88), some (.ref a1), some (.int (s.1)), some (.int (s.2.1)), none, none, none] [] shp s.2.2 (aQi shp K)) (fun s Kb4 hL4 hR4 h => ?_) (v2, v3, D) (Ok.bind h)
    obtain ⟨v2, v3, D⟩ := s
    replace h : Ok (B_X12_differenceBy_4 a1 na1 v2 v3 D) Kb4 := h
    unfold B_X12_differenceBy_4 at h
    have hJ_94 : ∀ (v2 : Int32) (v3 : Int32) (v4 : Int32) (v5 : Int32) (D : aD), Ok (J_X12_differenceBy_94 a1 na1 v2 v3 v4 v5 D) Kb4 → AW G (aRm 5 0 0) M_X12_differenceBy fr 0 0 94 [some (.ref 88), some (.ref a1), some (.int v2), some (.int v3), some (.int v4), some (.int v5), none] [] shp D (aQi shp K) := by
      intro v2 v3 v4 v5 D h
      unfold J_X12_differenceBy_94 at h
      refine aw_iload_n (n := 95) (i := 2) dX12_differenceBy_94 rfl rfl rfl ?_
      refine aw_iload (n := 97) (i := 5) dX12_differenceBy_95 rfl rfl ?_
      refine aw_iload (n := 99) (i := 4) dX12_differenceBy_97 rfl rfl ?_
      refine aw_isub (n := 100) dX12_differenceBy_99 rfl ?_
      refine aw_max (M := M_X12_differenceBy) (n := 103) lm_RX12_326 mm_max.1 mm_max.2.1 mm_max.2.2 (by decide) (Nat.le_of_ble_eq_true rfl) (by decide) (by decide) dX12_differenceBy_100 rfl ?_
      obtain ⟨v2_7, e_v2_7, h⟩ := Ok.let_ h
      refine aw_istore_n (n := 104) (i := 2) (al' := [some (.ref 88), some (.ref a1), some (.int v2_7), some (.int v3), some (.int v4), some (.int v5), none]) dX12_differenceBy_103 rfl rfl e_v2_7 (by decide) rfl ?_
      obtain ⟨v3_8, e_v3_8, h⟩ := Ok.let_ h
      refine aw_iinc (n := 107) (al' := [some (.ref 88), some (.ref a1), some (.int v2_7), some (.int v3_8), some (.int v4), some (.int v5), none]) dX12_differenceBy_104 rfl rfl e_v3_8 (by decide) rfl ?_
      refine aw_goto (tgt := 4) dX12_differenceBy_107 (by decide) ?_
      exact aw_le' (hL4 (v2_7, v3_8, D) (Ok.dn h :)) ⟨rfl, ⟨rfl, ⟨rfl, ⟨rfl, trivial⟩⟩⟩⟩
    have hJ_49 : ∀ (v2 : Int32) (v3 : Int32) (v4 : Int32) (v5 : Int32) (v6 : Int32) (D : aD), Ok (J_X12_differenceBy_49 a1 na1 v2 v3 v4 v5 v6 D) Kb4 → AW G (aRm 5 0 0) M_X12_differenceBy fr 0 0 49 [some (.ref 88), some (.ref a1), some (.int v2), some (.int v3), some (.int v4), some (.int v5), some (.int v6)] [] shp D (aQi shp K) := by
      intro v2 v3 v4 v5 v6 D h
      unfold J_X12_differenceBy_49 at h
      refine Ok.lp (P := fun s => AW G (aRm 5 0 0) M_X12_differenceBy fr 0 0 49 [some (.ref 88), some (.ref a1), some (.int v2), some (.int v3), some (.int (s.1)), some (.int (s.2.1)), some (.int (s.2.2.1))] [] shp s.2.2.2 (aQi shp K)) (fun s Kb49 hL49 hR49 h => ?_) (v4, v5, v6, D) (Ok.bind h)
      obtain ⟨v4, v5, v6, D⟩ := s
      replace h : Ok (B_X12_differenceBy_49 a1 na1 v2 v3 v4 v5 v6 D) Kb49 := h
      unfold B_X12_differenceBy_49 at h
      refine aw_iload (n := 51) (i := 6) dX12_differenceBy_49 rfl rfl ?_
      refine aw_aload_n (n := 52) (i := 0) dX12_differenceBy_51 rfl rfl rfl ?_
      refine aw_getR (n := 55) (j := 3) (r := 91) hG.1 fl_RX12_27 (sF_88 hS) rfl dX12_differenceBy_52 rfl ?_
      refine aw_iconst (n := 56) (v := 3) dX12_differenceBy_55 rfl (by decide) ?_
      obtain ⟨g_9, h⟩ := Ok.gd h
      refine aw_iaload (n := 57) hG.1 (sF_91 hS) (aIn_in g_9) dX12_differenceBy_56 rfl ?_
      refine aw_icmp_ge (n := 60) (tgt := 94) dX12_differenceBy_57 rfl (by decide) (fun c => ?_) (fun c => ?_)
      · replace h := Ok.ift h c
        exact aw_le' (hJ_94 v2 v3 v4 v5 D (hR49 (v4, v5, D) (Ok.dn h :))) ⟨rfl, ⟨rfl, ⟨rfl, ⟨rfl, ⟨rfl, ⟨rfl, trivial⟩⟩⟩⟩⟩⟩
      · replace h := Ok.iff h c
        refine aw_iload (n := 62) (i := 4) dX12_differenceBy_60 rfl rfl ?_
        refine aw_aload_n (n := 63) (i := 0) dX12_differenceBy_62 rfl rfl rfl ?_
        refine aw_getR (n := 66) (j := 38) (r := 112) hG.1 fl_RX12_97 (sF_88 hS) rfl dX12_differenceBy_63 rfl ?_
        refine aw_iload (n := 68) (i := 6) dX12_differenceBy_66 rfl rfl ?_
        obtain ⟨g_10, h⟩ := Ok.gd h
        refine aw_iaload (n := 69) hG.1 (sF_112 hS) (aIn_in g_10) dX12_differenceBy_68 rfl ?_
        refine aw_min (M := M_X12_differenceBy) (n := 72) lm_RX12_194 mm_min.1 mm_min.2.1 mm_min.2.2 (by decide) (Nat.le_of_ble_eq_true rfl) (by decide) (by decide) dX12_differenceBy_69 rfl ?_
        obtain ⟨v4_11, e_v4_11, h⟩ := Ok.let_ h
        refine aw_istore (n := 74) (i := 4) (al' := [some (.ref 88), some (.ref a1), some (.int v2), some (.int v3), some (.int v4_11), some (.int v5), some (.int v6)]) dX12_differenceBy_72 rfl e_v4_11 (by decide) rfl ?_
        refine aw_iload (n := 76) (i := 5) dX12_differenceBy_74 rfl rfl ?_
        refine aw_aload_n (n := 77) (i := 0) dX12_differenceBy_76 rfl rfl rfl ?_
        refine aw_getR (n := 80) (j := 38) (r := 112) hG.1 fl_RX12_97 (sF_88 hS) rfl dX12_differenceBy_77 rfl ?_
        refine aw_iload (n := 82) (i := 6) dX12_differenceBy_80 rfl rfl ?_
        obtain ⟨g_12, h⟩ := Ok.gd h
        refine aw_iaload (n := 83) hG.1 (sF_112 hS) (aIn_in g_12) dX12_differenceBy_82 rfl ?_
        refine aw_max (M := M_X12_differenceBy) (n := 86) lm_RX12_326 mm_max.1 mm_max.2.1 mm_max.2.2 (by decide) (Nat.le_of_ble_eq_true rfl) (by decide) (by decide) dX12_differenceBy_83 rfl ?_
        obtain ⟨v5_13, e_v5_13, h⟩ := Ok.let_ h
        refine aw_istore (n := 88) (i := 5) (al' := [some (.ref 88), some (.ref a1), some (.int v2), some (.int v3), some (.int v4_11), some (.int v5_13), some (.int v6)]) dX12_differenceBy_86 rfl e_v5_13 (by decide) rfl ?_
        obtain ⟨v6_14, e_v6_14, h⟩ := Ok.let_ h
        refine aw_iinc (n := 91) (al' := [some (.ref 88), some (.ref a1), some (.int v2), some (.int v3), some (.int v4_11), some (.int v5_13), some (.int v6_14)]) dX12_differenceBy_88 rfl rfl e_v6_14 (by decide) rfl ?_
        refine aw_goto (tgt := 49) dX12_differenceBy_91 (by decide) ?_
        exact aw_le' (hL49 (v4_11, v5_13, v6_14, D) (Ok.dn h :)) ⟨rfl, ⟨rfl, ⟨rfl, ⟨rfl, ⟨rfl, ⟨rfl, ⟨rfl, trivial⟩⟩⟩⟩⟩⟩⟩
    refine aw_iload_n (n := 5) (i := 3) dX12_differenceBy_4 rfl rfl rfl ?_
    refine aw_iconst (n := 6) (v := 5) dX12_differenceBy_5 rfl (by decide) ?_
    refine aw_icmp_ge (n := 9) (tgt := 110) dX12_differenceBy_6 rfl (by decide) (fun c => ?_) (fun c => ?_)
    · replace h := Ok.ift h c
      exact aw_le' (hJ_110 v2 D (hR4 (v2, D) (Ok.dn h :))) ⟨rfl, trivial⟩
    · replace h := Ok.iff h c
      refine aw_aload_n (n := 10) (i := 0) dX12_differenceBy_9 rfl rfl rfl ?_
      refine aw_getR (n := 13) (j := 3) (r := 91) hG.1 fl_RX12_27 (sF_88 hS) rfl dX12_differenceBy_10 rfl ?_
      refine aw_bipush (n := 15) (v := 10) dX12_differenceBy_13 rfl (by decide) ?_
      refine aw_iload_n (n := 16) (i := 3) dX12_differenceBy_15 rfl rfl rfl ?_
      refine aw_iadd (n := 17) dX12_differenceBy_16 rfl ?_
      obtain ⟨g_1, h⟩ := Ok.gd h
      refine aw_iaload (n := 18) hG.1 (sF_91 hS) (aIn_in g_1) dX12_differenceBy_17 rfl ?_
      refine aw_if_ne (n := 21) (tgt := 24) dX12_differenceBy_18 rfl (by decide) (fun c => ?_) (fun c => ?_)
      · replace h := Ok.ift h c
        refine aw_aload_n (n := 25) (i := 0) dX12_differenceBy_24 rfl rfl rfl ?_
        refine aw_aload_n (n := 26) (i := 1) dX12_differenceBy_25 rfl rfl rfl ?_
        refine aw_iload_n (n := 27) (i := 3) dX12_differenceBy_26 rfl rfl rfl ?_
        refine aw_cVv (M := M_X12_differenceBy) (n := 30) (As := [.ref a1, .int v3]) (rest := []) hG.1 lk_RX12_349 rfl rfl (sF_88 hS) (c_X12_tellSums hG hS (h := Ok.bind h) ha1) (by decide) (Nat.le_of_ble_eq_true rfl) (by decide) (by decide) dX12_differenceBy_27 rfl (fun D_2 h => ?_)
        refine aw_aload_n (n := 31) (i := 0) dX12_differenceBy_30 rfl rfl rfl ?_
        refine aw_getR (n := 34) (j := 38) (r := 112) hG.1 fl_RX12_97 (sF_88 hS) rfl dX12_differenceBy_31 rfl ?_
        refine aw_iconst (n := 35) (v := 0) dX12_differenceBy_34 rfl (by decide) ?_
        obtain ⟨g_3, h⟩ := Ok.gd h
        refine aw_iaload (n := 36) hG.1 (sF_112 hS) (aIn_in g_3) dX12_differenceBy_35 rfl ?_
        obtain ⟨v4_4, e_v4_4, h⟩ := Ok.let_ h
        refine aw_istore (n := 38) (i := 4) (al' := [some (.ref 88), some (.ref a1), some (.int v2), some (.int v3), some (.int v4_4), none, none]) dX12_differenceBy_36 rfl e_v4_4 (by decide) rfl ?_
        refine aw_aload_n (n := 39) (i := 0) dX12_differenceBy_38 rfl rfl rfl ?_
        refine aw_getR (n := 42) (j := 38) (r := 112) hG.1 fl_RX12_97 (sF_88 hS) rfl dX12_differenceBy_39 rfl ?_
        refine aw_iconst (n := 43) (v := 0) dX12_differenceBy_42 rfl (by decide) ?_
        obtain ⟨g_5, h⟩ := Ok.gd h
        refine aw_iaload (n := 44) hG.1 (sF_112 hS) (aIn_in g_5) dX12_differenceBy_43 rfl ?_
        obtain ⟨v5_6, e_v5_6, h⟩ := Ok.let_ h
        refine aw_istore (n := 46) (i := 5) (al' := [some (.ref 88), some (.ref a1), some (.int v2), some (.int v3), some (.int v4_4), some (.int v5_6), none]) dX12_differenceBy_44 rfl e_v5_6 (by decide) rfl ?_
        refine aw_iconst (n := 47) (v := 1) dX12_differenceBy_46 rfl (by decide) ?_
        refine aw_istore (n := 49) (i := 6) (al' := [some (.ref 88), some (.ref a1), some (.int v2), some (.int v3), some (.int v4_4), some (.int v5_6), some (.int 1)]) dX12_differenceBy_47 rfl rfl (by decide) rfl ?_
        exact aw_le' (hJ_49 v2 v3 v4_4 v5_6 1 D_2 h) ⟨rfl, ⟨rfl, ⟨rfl, ⟨rfl, ⟨rfl, ⟨rfl, ⟨rfl, trivial⟩⟩⟩⟩⟩⟩⟩
      · replace h := Ok.iffn h c
        refine aw_goto (tgt := 104) dX12_differenceBy_21 (by decide) ?_
        obtain ⟨v3_15, e_v3_15, h⟩ := Ok.let_ h
        refine aw_iinc (n := 107) (al' := [some (.ref 88), some (.ref a1), some (.int v2), some (.int v3_15), none, none, none]) dX12_differenceBy_104 rfl rfl e_v3_15 (by decide) rfl ?_
        refine aw_goto (tgt := 4) dX12_differenceBy_107 (by decide) ?_
        exact aw_le' (hL4 (v2, v3_15, D) (Ok.dn h :)) ⟨rfl, ⟨rfl, ⟨rfl, ⟨rfl, trivial⟩⟩⟩⟩
  refine aw_iconst (n := 1) (v := 0) dX12_differenceBy_0 rfl (by decide) ?_
  refine aw_istore_n (n := 2) (i := 2) (al' := [some (.ref 88), some (.ref a1), some (.int 0), none, none, none, none]) dX12_differenceBy_1 rfl rfl rfl (by decide) rfl ?_
  refine aw_iconst (n := 3) (v := 0) dX12_differenceBy_2 rfl (by decide) ?_
  refine aw_istore_n (n := 4) (i := 3) (al' := [some (.ref 88), some (.ref a1), some (.int 0), some (.int 0), none, none, none]) dX12_differenceBy_3 rfl rfl rfl (by decide) rfl ?_
  exact aw_le' (hJ_4 0 0 D h) ⟨rfl, ⟨rfl, ⟨rfl, ⟨rfl, trivial⟩⟩⟩⟩
theorem dX12_fairOn_0 : decode cX12_fairOn 0 = .ok (.iload_n 1, 1) := by decide +kernel
theorem dX12_fairOn_1 : decode cX12_fairOn 1 = .ok (.aload_n 0, 1) := by decide +kernel
theorem dX12_fairOn_2 : decode cX12_fairOn 2 = .ok (.getfield 27, 3) := by decide +kernel
theorem dX12_fairOn_5 : decode cX12_fairOn 5 = .ok (.iconst 5, 1) := by decide +kernel
theorem dX12_fairOn_6 : decode cX12_fairOn 6 = .ok (.iaload, 1) := by decide +kernel
theorem dX12_fairOn_7 : decode cX12_fairOn 7 = .ok (.if_icmp .ne 46, 3) := by decide +kernel
theorem dX12_fairOn_10 : decode cX12_fairOn 10 = .ok (.aload_n 0, 1) := by decide +kernel
theorem dX12_fairOn_11 : decode cX12_fairOn 11 = .ok (.aload_n 0, 1) := by decide +kernel
theorem dX12_fairOn_12 : decode cX12_fairOn 12 = .ok (.getfield 109, 3) := by decide +kernel
theorem dX12_fairOn_15 : decode cX12_fairOn 15 = .ok (.invokevirtual 394, 3) := by decide +kernel
theorem dX12_fairOn_18 : decode cX12_fairOn 18 = .ok (.istore_n 3, 1) := by decide +kernel
theorem dX12_fairOn_19 : decode cX12_fairOn 19 = .ok (.aload_n 0, 1) := by decide +kernel
theorem dX12_fairOn_20 : decode cX12_fairOn 20 = .ok (.getfield 397, 3) := by decide +kernel
theorem dX12_fairOn_23 : decode cX12_fairOn 23 = .ok (.iconst (-1), 1) := by decide +kernel
theorem dX12_fairOn_24 : decode cX12_fairOn 24 = .ok (.if_icmp .eq 12, 3) := by decide +kernel
theorem dX12_fairOn_27 : decode cX12_fairOn 27 = .ok (.iload_n 3, 1) := by decide +kernel
theorem dX12_fairOn_28 : decode cX12_fairOn 28 = .ok (.aload_n 0, 1) := by decide +kernel
theorem dX12_fairOn_29 : decode cX12_fairOn 29 = .ok (.getfield 397, 3) := by decide +kernel
theorem dX12_fairOn_32 : decode cX12_fairOn 32 = .ok (.if_icmp .lt 4, 3) := by decide +kernel
theorem dX12_fairOn_35 : decode cX12_fairOn 35 = .ok (.return_, 1) := by decide +kernel
theorem dX12_fairOn_36 : decode cX12_fairOn 36 = .ok (.aload_n 0, 1) := by decide +kernel
theorem dX12_fairOn_37 : decode cX12_fairOn 37 = .ok (.iload_n 3, 1) := by decide +kernel
theorem dX12_fairOn_38 : decode cX12_fairOn 38 = .ok (.putfield 397, 3) := by decide +kernel
theorem dX12_fairOn_41 : decode cX12_fairOn 41 = .ok (.aload_n 0, 1) := by decide +kernel
theorem dX12_fairOn_42 : decode cX12_fairOn 42 = .ok (.getfield 112, 3) := by decide +kernel
theorem dX12_fairOn_45 : decode cX12_fairOn 45 = .ok (.aload_n 0, 1) := by decide +kernel
theorem dX12_fairOn_46 : decode cX12_fairOn 46 = .ok (.getfield 109, 3) := by decide +kernel
theorem dX12_fairOn_49 : decode cX12_fairOn 49 = .ok (.invokestatic 383, 3) := by decide +kernel
theorem dX12_fairOn_52 : decode cX12_fairOn 52 = .ok (.return_, 1) := by decide +kernel
theorem dX12_fairOn_53 : decode cX12_fairOn 53 = .ok (.iconst 0, 1) := by decide +kernel
theorem dX12_fairOn_54 : decode cX12_fairOn 54 = .ok (.istore_n 3, 1) := by decide +kernel
theorem dX12_fairOn_55 : decode cX12_fairOn 55 = .ok (.iload_n 3, 1) := by decide +kernel
theorem dX12_fairOn_56 : decode cX12_fairOn 56 = .ok (.aload_n 0, 1) := by decide +kernel
theorem dX12_fairOn_57 : decode cX12_fairOn 57 = .ok (.getfield 27, 3) := by decide +kernel
theorem dX12_fairOn_60 : decode cX12_fairOn 60 = .ok (.iconst 5, 1) := by decide +kernel
theorem dX12_fairOn_61 : decode cX12_fairOn 61 = .ok (.iaload, 1) := by decide +kernel
theorem dX12_fairOn_62 : decode cX12_fairOn 62 = .ok (.if_icmp .ge 40, 3) := by decide +kernel
theorem dX12_fairOn_65 : decode cX12_fairOn 65 = .ok (.iload_n 2, 1) := by decide +kernel
theorem dX12_fairOn_66 : decode cX12_fairOn 66 = .ok (.iload_n 3, 1) := by decide +kernel
theorem dX12_fairOn_67 : decode cX12_fairOn 67 = .ok (.ishr, 1) := by decide +kernel
theorem dX12_fairOn_68 : decode cX12_fairOn 68 = .ok (.iconst 1, 1) := by decide +kernel
theorem dX12_fairOn_69 : decode cX12_fairOn 69 = .ok (.iand, 1) := by decide +kernel
theorem dX12_fairOn_70 : decode cX12_fairOn 70 = .ok (.iconst 1, 1) := by decide +kernel
theorem dX12_fairOn_71 : decode cX12_fairOn 71 = .ok (.if_icmp .ne 6, 3) := by decide +kernel
theorem dX12_fairOn_74 : decode cX12_fairOn 74 = .ok (.goto 22, 3) := by decide +kernel
theorem dX12_fairOn_77 : decode cX12_fairOn 77 = .ok (.aload_n 0, 1) := by decide +kernel
theorem dX12_fairOn_78 : decode cX12_fairOn 78 = .ok (.getfield 109, 3) := by decide +kernel
theorem dX12_fairOn_81 : decode cX12_fairOn 81 = .ok (.iload_n 1, 1) := by decide +kernel
theorem dX12_fairOn_82 : decode cX12_fairOn 82 = .ok (.iload_n 3, 1) := by decide +kernel
theorem dX12_fairOn_83 : decode cX12_fairOn 83 = .ok (.iastore, 1) := by decide +kernel
theorem dX12_fairOn_84 : decode cX12_fairOn 84 = .ok (.aload_n 0, 1) := by decide +kernel
theorem dX12_fairOn_85 : decode cX12_fairOn 85 = .ok (.iload_n 1, 1) := by decide +kernel
theorem dX12_fairOn_86 : decode cX12_fairOn 86 = .ok (.iconst 1, 1) := by decide +kernel
theorem dX12_fairOn_87 : decode cX12_fairOn 87 = .ok (.iadd, 1) := by decide +kernel
theorem dX12_fairOn_88 : decode cX12_fairOn 88 = .ok (.iload_n 2, 1) := by decide +kernel
theorem dX12_fairOn_89 : decode cX12_fairOn 89 = .ok (.iconst 1, 1) := by decide +kernel
theorem dX12_fairOn_90 : decode cX12_fairOn 90 = .ok (.iload_n 3, 1) := by decide +kernel
theorem dX12_fairOn_91 : decode cX12_fairOn 91 = .ok (.ishl, 1) := by decide +kernel
theorem dX12_fairOn_92 : decode cX12_fairOn 92 = .ok (.ior, 1) := by decide +kernel
theorem dX12_fairOn_93 : decode cX12_fairOn 93 = .ok (.invokevirtual 400, 3) := by decide +kernel
theorem dX12_fairOn_96 : decode cX12_fairOn 96 = .ok (.iinc 3 1, 3) := by decide +kernel
theorem dX12_fairOn_99 : decode cX12_fairOn 99 = .ok (.goto (-44), 3) := by decide +kernel
theorem dX12_fairOn_102 : decode cX12_fairOn 102 = .ok (.return_, 1) := by decide +kernel
def J_X12_fairOn_102 (fR : Int32 → Int32 → aD → Option aD) (D : aD) : Option (aD) :=
  some D
def B_X12_fairOn_55 (fR : Int32 → Int32 → aD → Option aD) (v1 : Int32) (v2 : Int32) (v3 : Int32) (D : aD) : Option ((Int32 × aD) ⊕ ((aD))) :=
  aGd (aIn 5 32) (if gI D 91 (5 : Int32).toNatClampNeg ≤ v3 then (some (.inr D)) else (if (v2 >>> (v3 &&& 31)) &&& 1 ≠ 1 then (aGd (aIn v1 5) (aLet (pI D 116 v1.toNatClampNeg v3) (fun D_4 => (fR (v1 + 1) (v2 ||| ((1 : Int32) <<< (v3 &&& 31))) D_4).bind (fun D_5 => aLet (v3 + 1) (fun v3_6 => some (.inl (v3_6, D_5))))))) else (aLet (v3 + 1) (fun v3_7 => some (.inl (v3_7, D))))))
def J_X12_fairOn_55 (fR : Int32 → Int32 → aD → Option aD) (v1 : Int32) (v2 : Int32) (v3 : Int32) (D : aD) : Option (aD) :=
  (aLp (fun s => B_X12_fairOn_55 fR v1 v2 s.1 s.2) (v3, D)).bind (fun r => J_X12_fairOn_102 fR r)
def J_X12_fairOn_36 (fR : Int32 → Int32 → aD → Option aD) (v3 : Int32) (D : aD) : Option (aD) :=
  aLet (pI D 88 46 v3) (fun D_10 => (f_X12_be 117 5 116 5 D_10).bind (fun D_11 => some D_11))
def F_X12_fairOn (fR : Int32 → Int32 → aD → Option aD) (v1 : Int32) (v2 : Int32) (D : aD) : Option (aD) :=
  aGd (aIn 5 32) (if v1 ≠ gI D 91 (5 : Int32).toNatClampNeg then (J_X12_fairOn_55 fR v1 v2 0 D) else (aBi (f_X12_differenceBy 116 5 D) (fun y_8 D_9 => if gI D_9 88 46 = (-1) then (J_X12_fairOn_36 fR y_8 D_9) else (if y_8 < gI D_9 88 46 then (J_X12_fairOn_36 fR y_8 D_9) else (some D_9)))))
def N_X12_fairOn : Nat → Int32 → Int32 → aD → Option (aD)
  | 0, _, _, _ => none
  | n + 1, v1, v2, D => F_X12_fairOn (N_X12_fairOn n) v1 v2 D
def f_X12_fairOn (v1 : Int32) (v2 : Int32) (D : aD) : Option (aD) := N_X12_fairOn 8 v1 v2 D
set_option maxRecDepth 100000 in
set_option maxHeartbeats 800000 in
theorem c_X12_fairOn_L0 {G : aG} (hG : gOK G) {shp : List aSh} (hS : aShp shp) {fr : Option Nat} {v1 : Int32} {v2 : Int32} {D : aD} {K : aD → Prop} (h : Ok (N_X12_fairOn 0 v1 v2 D) K) : AC G (aRm 5 0 0) M_X12_fairOn [.ref 88, .int v1, .int v2] fr shp D (aQv shp K) := by obtain ⟨a, e, -⟩ := h; cases e
set_option maxRecDepth 100000 in
set_option maxHeartbeats 800000 in
theorem c_X12_fairOn_L1 {G : aG} (hG : gOK G) {shp : List aSh} (hS : aShp shp) {fr : Option Nat} {v1 : Int32} {v2 : Int32} {D : aD} {K : aD → Prop} (h : Ok (N_X12_fairOn 1 v1 v2 D) K) : AC G (aRm 6 0 0) M_X12_fairOn [.ref 88, .int v1, .int v2] fr shp D (aQv shp K) := by
  replace h : Ok (F_X12_fairOn (N_X12_fairOn 0) v1 v2 D) K := h
  unfold F_X12_fairOn at h
  refine AC.of (al := [some (.ref 88), some (.int v1), some (.int v2), none]) (r := 1) (by decide) (Nat.le_of_ble_eq_true rfl) rfl ?_
  have hJ_36 : ∀ (v3 : Int32) (D : aD), Ok (J_X12_fairOn_36 (N_X12_fairOn 0) v3 D) K → AW G (aRm 6 0 0) M_X12_fairOn fr 0 0 36 [some (.ref 88), none, none, some (.int v3)] [] shp D (aQv shp K) := by
    intro v3 D h
    unfold J_X12_fairOn_36 at h
    refine aw_aload_n (n := 37) (i := 0) dX12_fairOn_36 rfl rfl rfl ?_
    refine aw_iload_n (n := 38) (i := 3) dX12_fairOn_37 rfl rfl rfl ?_
    obtain ⟨D_10, e_D_10, h⟩ := Ok.let_ h
    refine aw_putI (n := 41) (j := 46) hG.1 fl_RX12_397 (sF_88 hS) rfl e_D_10 dX12_fairOn_38 rfl ?_
    refine aw_aload_n (n := 42) (i := 0) dX12_fairOn_41 rfl rfl rfl ?_
    refine aw_getR (n := 45) (j := 45) (r := 117) hG.1 fl_RX12_112 (sF_88 hS) rfl dX12_fairOn_42 rfl ?_
    refine aw_aload_n (n := 46) (i := 0) dX12_fairOn_45 rfl rfl rfl ?_
    refine aw_getR (n := 49) (j := 44) (r := 116) hG.1 fl_RX12_109 (sF_88 hS) rfl dX12_fairOn_46 rfl ?_
    refine aw_cSv (M := M_X12_fairOn) (n := 52) (As := [.ref 117, .ref 116]) (rest := []) lk_RX12_383 rfl rfl (c_X12_be hG hS (h := Ok.bind h) (sF_117 hS) (sF_116 hS)) (by decide) (Nat.le_of_ble_eq_true rfl) (by decide) (by decide) dX12_fairOn_49 rfl (fun D_11 h => ?_)
    exact aw_vret rfl (by decide) (by decide) dX12_fairOn_52 ⟨rfl, rfl, (Ok.dn h :)⟩
  have hJ_102 : ∀ (D : aD), Ok (J_X12_fairOn_102 (N_X12_fairOn 0) D) K → AW G (aRm 6 0 0) M_X12_fairOn fr 0 0 102 [none, none, none, none] [] shp D (aQv shp K) := by
    intro D h
    unfold J_X12_fairOn_102 at h
    exact aw_vret rfl (by decide) (by decide) dX12_fairOn_102 ⟨rfl, rfl, (Ok.dn h :)⟩
  have hJ_55 : ∀ (v1 : Int32) (v2 : Int32) (v3 : Int32) (D : aD), Ok (J_X12_fairOn_55 (N_X12_fairOn 0) v1 v2 v3 D) K → AW G (aRm 6 0 0) M_X12_fairOn fr 0 0 55 [some (.ref 88), some (.int v1), some (.int v2), some (.int v3)] [] shp D (aQv shp K) := by
    intro v1 v2 v3 D h
    unfold J_X12_fairOn_55 at h
    refine Ok.lp (P := fun s => AW G (aRm 6 0 0) M_X12_fairOn fr 0 0 55 [some (.ref 88), some (.int v1), some (.int v2), some (.int (s.1))] [] shp s.2 (aQv shp K)) (fun s Kb55 hL55 hR55 h => ?_) (v3, D) (Ok.bind h)
    obtain ⟨v3, D⟩ := s
    replace h : Ok (B_X12_fairOn_55 (N_X12_fairOn 0) v1 v2 v3 D) Kb55 := h
    unfold B_X12_fairOn_55 at h
    refine aw_iload_n (n := 56) (i := 3) dX12_fairOn_55 rfl rfl rfl ?_
    refine aw_aload_n (n := 57) (i := 0) dX12_fairOn_56 rfl rfl rfl ?_
    refine aw_getR (n := 60) (j := 3) (r := 91) hG.1 fl_RX12_27 (sF_88 hS) rfl dX12_fairOn_57 rfl ?_
    refine aw_iconst (n := 61) (v := 5) dX12_fairOn_60 rfl (by decide) ?_
    obtain ⟨g_2, h⟩ := Ok.gd h
    refine aw_iaload (n := 62) hG.1 (sF_91 hS) (aIn_in g_2) dX12_fairOn_61 rfl ?_
    refine aw_icmp_ge (n := 65) (tgt := 102) dX12_fairOn_62 rfl (by decide) (fun c => ?_) (fun c => ?_)
    · replace h := Ok.ift h c
      exact aw_le' (hJ_102 D (hR55 D (Ok.dn h :))) trivial
    · replace h := Ok.iff h c
      refine aw_iload_n (n := 66) (i := 2) dX12_fairOn_65 rfl rfl rfl ?_
      refine aw_iload_n (n := 67) (i := 3) dX12_fairOn_66 rfl rfl rfl ?_
      refine aw_ishr (n := 68) dX12_fairOn_67 rfl ?_
      refine aw_iconst (n := 69) (v := 1) dX12_fairOn_68 rfl (by decide) ?_
      refine aw_iand (n := 70) dX12_fairOn_69 rfl ?_
      refine aw_iconst (n := 71) (v := 1) dX12_fairOn_70 rfl (by decide) ?_
      refine aw_icmp_ne (n := 74) (tgt := 77) dX12_fairOn_71 rfl (by decide) (fun c => ?_) (fun c => ?_)
      · replace h := Ok.ift h c
        refine aw_aload_n (n := 78) (i := 0) dX12_fairOn_77 rfl rfl rfl ?_
        refine aw_getR (n := 81) (j := 44) (r := 116) hG.1 fl_RX12_109 (sF_88 hS) rfl dX12_fairOn_78 rfl ?_
        refine aw_iload_n (n := 82) (i := 1) dX12_fairOn_81 rfl rfl rfl ?_
        refine aw_iload_n (n := 83) (i := 3) dX12_fairOn_82 rfl rfl rfl ?_
        obtain ⟨g_3, h⟩ := Ok.gd h
        obtain ⟨D_4, e_D_4, h⟩ := Ok.let_ h
        refine aw_iastore (n := 84) hG.1 (sF_116 hS) (aIn_in g_3) e_D_4 dX12_fairOn_83 rfl ?_
        refine aw_aload_n (n := 85) (i := 0) dX12_fairOn_84 rfl rfl rfl ?_
        refine aw_iload_n (n := 86) (i := 1) dX12_fairOn_85 rfl rfl rfl ?_
        refine aw_iconst (n := 87) (v := 1) dX12_fairOn_86 rfl (by decide) ?_
        refine aw_iadd (n := 88) dX12_fairOn_87 rfl ?_
        refine aw_iload_n (n := 89) (i := 2) dX12_fairOn_88 rfl rfl rfl ?_
        refine aw_iconst (n := 90) (v := 1) dX12_fairOn_89 rfl (by decide) ?_
        refine aw_iload_n (n := 91) (i := 3) dX12_fairOn_90 rfl rfl rfl ?_
        refine aw_ishl (n := 92) dX12_fairOn_91 rfl ?_
        refine aw_ior (n := 93) dX12_fairOn_92 rfl ?_
        refine aw_cVv (M := M_X12_fairOn) (n := 96) (As := [.int (v1 + 1), .int (v2 ||| ((1 : Int32) <<< (v3 &&& 31)))]) (rest := []) hG.1 lk_RX12_400 rfl rfl (sF_88 hS) (c_X12_fairOn_L0 hG hS (h := Ok.bind h)) (by decide) (Nat.le_of_ble_eq_true rfl) (by decide) (by decide) dX12_fairOn_93 rfl (fun D_5 h => ?_)
        obtain ⟨v3_6, e_v3_6, h⟩ := Ok.let_ h
        refine aw_iinc (n := 99) (al' := [some (.ref 88), some (.int v1), some (.int v2), some (.int v3_6)]) dX12_fairOn_96 rfl rfl e_v3_6 (by decide) rfl ?_
        refine aw_goto (tgt := 55) dX12_fairOn_99 (by decide) ?_
        exact aw_le' (hL55 (v3_6, D_5) (Ok.dn h :)) ⟨rfl, ⟨rfl, ⟨rfl, ⟨rfl, trivial⟩⟩⟩⟩
      · replace h := Ok.iffn h c
        refine aw_goto (tgt := 96) dX12_fairOn_74 (by decide) ?_
        obtain ⟨v3_7, e_v3_7, h⟩ := Ok.let_ h
        refine aw_iinc (n := 99) (al' := [some (.ref 88), some (.int v1), some (.int v2), some (.int v3_7)]) dX12_fairOn_96 rfl rfl e_v3_7 (by decide) rfl ?_
        refine aw_goto (tgt := 55) dX12_fairOn_99 (by decide) ?_
        exact aw_le' (hL55 (v3_7, D) (Ok.dn h :)) ⟨rfl, ⟨rfl, ⟨rfl, ⟨rfl, trivial⟩⟩⟩⟩
  refine aw_iload_n (n := 1) (i := 1) dX12_fairOn_0 rfl rfl rfl ?_
  refine aw_aload_n (n := 2) (i := 0) dX12_fairOn_1 rfl rfl rfl ?_
  refine aw_getR (n := 5) (j := 3) (r := 91) hG.1 fl_RX12_27 (sF_88 hS) rfl dX12_fairOn_2 rfl ?_
  refine aw_iconst (n := 6) (v := 5) dX12_fairOn_5 rfl (by decide) ?_
  obtain ⟨g_1, h⟩ := Ok.gd h
  refine aw_iaload (n := 7) hG.1 (sF_91 hS) (aIn_in g_1) dX12_fairOn_6 rfl ?_
  refine aw_icmp_ne (n := 10) (tgt := 53) dX12_fairOn_7 rfl (by decide) (fun c => ?_) (fun c => ?_)
  · replace h := Ok.ift h c
    refine aw_iconst (n := 54) (v := 0) dX12_fairOn_53 rfl (by decide) ?_
    refine aw_istore_n (n := 55) (i := 3) (al' := [some (.ref 88), some (.int v1), some (.int v2), some (.int 0)]) dX12_fairOn_54 rfl rfl rfl (by decide) rfl ?_
    exact aw_le' (hJ_55 v1 v2 0 D h) ⟨rfl, ⟨rfl, ⟨rfl, ⟨rfl, trivial⟩⟩⟩⟩
  · replace h := Ok.iffn h c
    refine aw_aload_n (n := 11) (i := 0) dX12_fairOn_10 rfl rfl rfl ?_
    refine aw_aload_n (n := 12) (i := 0) dX12_fairOn_11 rfl rfl rfl ?_
    refine aw_getR (n := 15) (j := 44) (r := 116) hG.1 fl_RX12_109 (sF_88 hS) rfl dX12_fairOn_12 rfl ?_
    refine aw_cVi (M := M_X12_fairOn) (n := 18) (As := [.ref 116]) (rest := []) hG.1 lk_RX12_394 rfl rfl (sF_88 hS) (c_X12_differenceBy hG hS (h := Ok.bi h) (sF_116 hS)) (by decide) (Nat.le_of_ble_eq_true rfl) (by decide) (by decide) dX12_fairOn_15 rfl (fun y_8 D_9 h => ?_)
    refine aw_istore_n (n := 19) (i := 3) (al' := [some (.ref 88), some (.int v1), some (.int v2), some (.int y_8)]) dX12_fairOn_18 rfl rfl rfl (by decide) rfl ?_
    refine aw_aload_n (n := 20) (i := 0) dX12_fairOn_19 rfl rfl rfl ?_
    refine aw_getI (n := 23) (j := 46) hG.1 fl_RX12_397 (sF_88 hS) rfl dX12_fairOn_20 rfl ?_
    refine aw_iconst (n := 24) (v := (-1)) dX12_fairOn_23 rfl (by decide) ?_
    refine aw_icmp_eq (n := 27) (tgt := 36) dX12_fairOn_24 rfl (by decide) (fun c => ?_) (fun c => ?_)
    · replace h := Ok.ift h c
      exact aw_le' (hJ_36 y_8 D_9 h) ⟨rfl, ⟨rfl, trivial⟩⟩
    · replace h := Ok.iff h c
      refine aw_iload_n (n := 28) (i := 3) dX12_fairOn_27 rfl rfl rfl ?_
      refine aw_aload_n (n := 29) (i := 0) dX12_fairOn_28 rfl rfl rfl ?_
      refine aw_getI (n := 32) (j := 46) hG.1 fl_RX12_397 (sF_88 hS) rfl dX12_fairOn_29 rfl ?_
      refine aw_icmp_lt (n := 35) (tgt := 36) dX12_fairOn_32 rfl (by decide) (fun c => ?_) (fun c => ?_)
      · replace h := Ok.ift h c
        exact aw_le' (hJ_36 y_8 D_9 h) ⟨rfl, ⟨rfl, trivial⟩⟩
      · replace h := Ok.iff h c
        exact aw_vret rfl (by decide) (by decide) dX12_fairOn_35 ⟨rfl, rfl, (Ok.dn h :)⟩
set_option maxRecDepth 100000 in
set_option maxHeartbeats 800000 in
theorem c_X12_fairOn_L2 {G : aG} (hG : gOK G) {shp : List aSh} (hS : aShp shp) {fr : Option Nat} {v1 : Int32} {v2 : Int32} {D : aD} {K : aD → Prop} (h : Ok (N_X12_fairOn 2 v1 v2 D) K) : AC G (aRm 7 0 0) M_X12_fairOn [.ref 88, .int v1, .int v2] fr shp D (aQv shp K) := by
  replace h : Ok (F_X12_fairOn (N_X12_fairOn 1) v1 v2 D) K := h
  unfold F_X12_fairOn at h
  refine AC.of (al := [some (.ref 88), some (.int v1), some (.int v2), none]) (r := 1) (by decide) (Nat.le_of_ble_eq_true rfl) rfl ?_
  have hJ_36 : ∀ (v3 : Int32) (D : aD), Ok (J_X12_fairOn_36 (N_X12_fairOn 1) v3 D) K → AW G (aRm 7 0 0) M_X12_fairOn fr 0 0 36 [some (.ref 88), none, none, some (.int v3)] [] shp D (aQv shp K) := by
    intro v3 D h
    unfold J_X12_fairOn_36 at h
    refine aw_aload_n (n := 37) (i := 0) dX12_fairOn_36 rfl rfl rfl ?_
    refine aw_iload_n (n := 38) (i := 3) dX12_fairOn_37 rfl rfl rfl ?_
    obtain ⟨D_10, e_D_10, h⟩ := Ok.let_ h
    refine aw_putI (n := 41) (j := 46) hG.1 fl_RX12_397 (sF_88 hS) rfl e_D_10 dX12_fairOn_38 rfl ?_
    refine aw_aload_n (n := 42) (i := 0) dX12_fairOn_41 rfl rfl rfl ?_
    refine aw_getR (n := 45) (j := 45) (r := 117) hG.1 fl_RX12_112 (sF_88 hS) rfl dX12_fairOn_42 rfl ?_
    refine aw_aload_n (n := 46) (i := 0) dX12_fairOn_45 rfl rfl rfl ?_
    refine aw_getR (n := 49) (j := 44) (r := 116) hG.1 fl_RX12_109 (sF_88 hS) rfl dX12_fairOn_46 rfl ?_
    refine aw_cSv (M := M_X12_fairOn) (n := 52) (As := [.ref 117, .ref 116]) (rest := []) lk_RX12_383 rfl rfl (c_X12_be hG hS (h := Ok.bind h) (sF_117 hS) (sF_116 hS)) (by decide) (Nat.le_of_ble_eq_true rfl) (by decide) (by decide) dX12_fairOn_49 rfl (fun D_11 h => ?_)
    exact aw_vret rfl (by decide) (by decide) dX12_fairOn_52 ⟨rfl, rfl, (Ok.dn h :)⟩
  have hJ_102 : ∀ (D : aD), Ok (J_X12_fairOn_102 (N_X12_fairOn 1) D) K → AW G (aRm 7 0 0) M_X12_fairOn fr 0 0 102 [none, none, none, none] [] shp D (aQv shp K) := by
    intro D h
    unfold J_X12_fairOn_102 at h
    exact aw_vret rfl (by decide) (by decide) dX12_fairOn_102 ⟨rfl, rfl, (Ok.dn h :)⟩
  have hJ_55 : ∀ (v1 : Int32) (v2 : Int32) (v3 : Int32) (D : aD), Ok (J_X12_fairOn_55 (N_X12_fairOn 1) v1 v2 v3 D) K → AW G (aRm 7 0 0) M_X12_fairOn fr 0 0 55 [some (.ref 88), some (.int v1), some (.int v2), some (.int v3)] [] shp D (aQv shp K) := by
    intro v1 v2 v3 D h
    unfold J_X12_fairOn_55 at h
    refine Ok.lp (P := fun s => AW G (aRm 7 0 0) M_X12_fairOn fr 0 0 55 [some (.ref 88), some (.int v1), some (.int v2), some (.int (s.1))] [] shp s.2 (aQv shp K)) (fun s Kb55 hL55 hR55 h => ?_) (v3, D) (Ok.bind h)
    obtain ⟨v3, D⟩ := s
    replace h : Ok (B_X12_fairOn_55 (N_X12_fairOn 1) v1 v2 v3 D) Kb55 := h
    unfold B_X12_fairOn_55 at h
    refine aw_iload_n (n := 56) (i := 3) dX12_fairOn_55 rfl rfl rfl ?_
    refine aw_aload_n (n := 57) (i := 0) dX12_fairOn_56 rfl rfl rfl ?_
    refine aw_getR (n := 60) (j := 3) (r := 91) hG.1 fl_RX12_27 (sF_88 hS) rfl dX12_fairOn_57 rfl ?_
    refine aw_iconst (n := 61) (v := 5) dX12_fairOn_60 rfl (by decide) ?_
    obtain ⟨g_2, h⟩ := Ok.gd h
    refine aw_iaload (n := 62) hG.1 (sF_91 hS) (aIn_in g_2) dX12_fairOn_61 rfl ?_
    refine aw_icmp_ge (n := 65) (tgt := 102) dX12_fairOn_62 rfl (by decide) (fun c => ?_) (fun c => ?_)
    · replace h := Ok.ift h c
      exact aw_le' (hJ_102 D (hR55 D (Ok.dn h :))) trivial
    · replace h := Ok.iff h c
      refine aw_iload_n (n := 66) (i := 2) dX12_fairOn_65 rfl rfl rfl ?_
      refine aw_iload_n (n := 67) (i := 3) dX12_fairOn_66 rfl rfl rfl ?_
      refine aw_ishr (n := 68) dX12_fairOn_67 rfl ?_
      refine aw_iconst (n := 69) (v := 1) dX12_fairOn_68 rfl (by decide) ?_
      refine aw_iand (n := 70) dX12_fairOn_69 rfl ?_
      refine aw_iconst (n := 71) (v := 1) dX12_fairOn_70 rfl (by decide) ?_
      refine aw_icmp_ne (n := 74) (tgt := 77) dX12_fairOn_71 rfl (by decide) (fun c => ?_) (fun c => ?_)
      · replace h := Ok.ift h c
        refine aw_aload_n (n := 78) (i := 0) dX12_fairOn_77 rfl rfl rfl ?_
        refine aw_getR (n := 81) (j := 44) (r := 116) hG.1 fl_RX12_109 (sF_88 hS) rfl dX12_fairOn_78 rfl ?_
        refine aw_iload_n (n := 82) (i := 1) dX12_fairOn_81 rfl rfl rfl ?_
        refine aw_iload_n (n := 83) (i := 3) dX12_fairOn_82 rfl rfl rfl ?_
        obtain ⟨g_3, h⟩ := Ok.gd h
        obtain ⟨D_4, e_D_4, h⟩ := Ok.let_ h
        refine aw_iastore (n := 84) hG.1 (sF_116 hS) (aIn_in g_3) e_D_4 dX12_fairOn_83 rfl ?_
        refine aw_aload_n (n := 85) (i := 0) dX12_fairOn_84 rfl rfl rfl ?_
        refine aw_iload_n (n := 86) (i := 1) dX12_fairOn_85 rfl rfl rfl ?_
        refine aw_iconst (n := 87) (v := 1) dX12_fairOn_86 rfl (by decide) ?_
        refine aw_iadd (n := 88) dX12_fairOn_87 rfl ?_
        refine aw_iload_n (n := 89) (i := 2) dX12_fairOn_88 rfl rfl rfl ?_
        refine aw_iconst (n := 90) (v := 1) dX12_fairOn_89 rfl (by decide) ?_
        refine aw_iload_n (n := 91) (i := 3) dX12_fairOn_90 rfl rfl rfl ?_
        refine aw_ishl (n := 92) dX12_fairOn_91 rfl ?_
        refine aw_ior (n := 93) dX12_fairOn_92 rfl ?_
        refine aw_cVv (M := M_X12_fairOn) (n := 96) (As := [.int (v1 + 1), .int (v2 ||| ((1 : Int32) <<< (v3 &&& 31)))]) (rest := []) hG.1 lk_RX12_400 rfl rfl (sF_88 hS) (c_X12_fairOn_L1 hG hS (h := Ok.bind h)) (by decide) (Nat.le_of_ble_eq_true rfl) (by decide) (by decide) dX12_fairOn_93 rfl (fun D_5 h => ?_)
        obtain ⟨v3_6, e_v3_6, h⟩ := Ok.let_ h
        refine aw_iinc (n := 99) (al' := [some (.ref 88), some (.int v1), some (.int v2), some (.int v3_6)]) dX12_fairOn_96 rfl rfl e_v3_6 (by decide) rfl ?_
        refine aw_goto (tgt := 55) dX12_fairOn_99 (by decide) ?_
        exact aw_le' (hL55 (v3_6, D_5) (Ok.dn h :)) ⟨rfl, ⟨rfl, ⟨rfl, ⟨rfl, trivial⟩⟩⟩⟩
      · replace h := Ok.iffn h c
        refine aw_goto (tgt := 96) dX12_fairOn_74 (by decide) ?_
        obtain ⟨v3_7, e_v3_7, h⟩ := Ok.let_ h
        refine aw_iinc (n := 99) (al' := [some (.ref 88), some (.int v1), some (.int v2), some (.int v3_7)]) dX12_fairOn_96 rfl rfl e_v3_7 (by decide) rfl ?_
        refine aw_goto (tgt := 55) dX12_fairOn_99 (by decide) ?_
        exact aw_le' (hL55 (v3_7, D) (Ok.dn h :)) ⟨rfl, ⟨rfl, ⟨rfl, ⟨rfl, trivial⟩⟩⟩⟩
  refine aw_iload_n (n := 1) (i := 1) dX12_fairOn_0 rfl rfl rfl ?_
  refine aw_aload_n (n := 2) (i := 0) dX12_fairOn_1 rfl rfl rfl ?_
  refine aw_getR (n := 5) (j := 3) (r := 91) hG.1 fl_RX12_27 (sF_88 hS) rfl dX12_fairOn_2 rfl ?_
  refine aw_iconst (n := 6) (v := 5) dX12_fairOn_5 rfl (by decide) ?_
  obtain ⟨g_1, h⟩ := Ok.gd h
  refine aw_iaload (n := 7) hG.1 (sF_91 hS) (aIn_in g_1) dX12_fairOn_6 rfl ?_
  refine aw_icmp_ne (n := 10) (tgt := 53) dX12_fairOn_7 rfl (by decide) (fun c => ?_) (fun c => ?_)
  · replace h := Ok.ift h c
    refine aw_iconst (n := 54) (v := 0) dX12_fairOn_53 rfl (by decide) ?_
    refine aw_istore_n (n := 55) (i := 3) (al' := [some (.ref 88), some (.int v1), some (.int v2), some (.int 0)]) dX12_fairOn_54 rfl rfl rfl (by decide) rfl ?_
    exact aw_le' (hJ_55 v1 v2 0 D h) ⟨rfl, ⟨rfl, ⟨rfl, ⟨rfl, trivial⟩⟩⟩⟩
  · replace h := Ok.iffn h c
    refine aw_aload_n (n := 11) (i := 0) dX12_fairOn_10 rfl rfl rfl ?_
    refine aw_aload_n (n := 12) (i := 0) dX12_fairOn_11 rfl rfl rfl ?_
    refine aw_getR (n := 15) (j := 44) (r := 116) hG.1 fl_RX12_109 (sF_88 hS) rfl dX12_fairOn_12 rfl ?_
    refine aw_cVi (M := M_X12_fairOn) (n := 18) (As := [.ref 116]) (rest := []) hG.1 lk_RX12_394 rfl rfl (sF_88 hS) (c_X12_differenceBy hG hS (h := Ok.bi h) (sF_116 hS)) (by decide) (Nat.le_of_ble_eq_true rfl) (by decide) (by decide) dX12_fairOn_15 rfl (fun y_8 D_9 h => ?_)
    refine aw_istore_n (n := 19) (i := 3) (al' := [some (.ref 88), some (.int v1), some (.int v2), some (.int y_8)]) dX12_fairOn_18 rfl rfl rfl (by decide) rfl ?_
    refine aw_aload_n (n := 20) (i := 0) dX12_fairOn_19 rfl rfl rfl ?_
    refine aw_getI (n := 23) (j := 46) hG.1 fl_RX12_397 (sF_88 hS) rfl dX12_fairOn_20 rfl ?_
    refine aw_iconst (n := 24) (v := (-1)) dX12_fairOn_23 rfl (by decide) ?_
    refine aw_icmp_eq (n := 27) (tgt := 36) dX12_fairOn_24 rfl (by decide) (fun c => ?_) (fun c => ?_)
    · replace h := Ok.ift h c
      exact aw_le' (hJ_36 y_8 D_9 h) ⟨rfl, ⟨rfl, trivial⟩⟩
    · replace h := Ok.iff h c
      refine aw_iload_n (n := 28) (i := 3) dX12_fairOn_27 rfl rfl rfl ?_
      refine aw_aload_n (n := 29) (i := 0) dX12_fairOn_28 rfl rfl rfl ?_
      refine aw_getI (n := 32) (j := 46) hG.1 fl_RX12_397 (sF_88 hS) rfl dX12_fairOn_29 rfl ?_
      refine aw_icmp_lt (n := 35) (tgt := 36) dX12_fairOn_32 rfl (by decide) (fun c => ?_) (fun c => ?_)
      · replace h := Ok.ift h c
        exact aw_le' (hJ_36 y_8 D_9 h) ⟨rfl, ⟨rfl, trivial⟩⟩
      · replace h := Ok.iff h c
        exact aw_vret rfl (by decide) (by decide) dX12_fairOn_35 ⟨rfl, rfl, (Ok.dn h :)⟩
set_option maxRecDepth 100000 in
set_option maxHeartbeats 800000 in
theorem c_X12_fairOn_L3 {G : aG} (hG : gOK G) {shp : List aSh} (hS : aShp shp) {fr : Option Nat} {v1 : Int32} {v2 : Int32} {D : aD} {K : aD → Prop} (h : Ok (N_X12_fairOn 3 v1 v2 D) K) : AC G (aRm 8 0 0) M_X12_fairOn [.ref 88, .int v1, .int v2] fr shp D (aQv shp K) := by
  replace h : Ok (F_X12_fairOn (N_X12_fairOn 2) v1 v2 D) K := h
  unfold F_X12_fairOn at h
  refine AC.of (al := [some (.ref 88), some (.int v1), some (.int v2), none]) (r := 1) (by decide) (Nat.le_of_ble_eq_true rfl) rfl ?_
  have hJ_36 : ∀ (v3 : Int32) (D : aD), Ok (J_X12_fairOn_36 (N_X12_fairOn 2) v3 D) K → AW G (aRm 8 0 0) M_X12_fairOn fr 0 0 36 [some (.ref 88), none, none, some (.int v3)] [] shp D (aQv shp K) := by
    intro v3 D h
    unfold J_X12_fairOn_36 at h
    refine aw_aload_n (n := 37) (i := 0) dX12_fairOn_36 rfl rfl rfl ?_
    refine aw_iload_n (n := 38) (i := 3) dX12_fairOn_37 rfl rfl rfl ?_
    obtain ⟨D_10, e_D_10, h⟩ := Ok.let_ h
    refine aw_putI (n := 41) (j := 46) hG.1 fl_RX12_397 (sF_88 hS) rfl e_D_10 dX12_fairOn_38 rfl ?_
    refine aw_aload_n (n := 42) (i := 0) dX12_fairOn_41 rfl rfl rfl ?_
    refine aw_getR (n := 45) (j := 45) (r := 117) hG.1 fl_RX12_112 (sF_88 hS) rfl dX12_fairOn_42 rfl ?_
    refine aw_aload_n (n := 46) (i := 0) dX12_fairOn_45 rfl rfl rfl ?_
    refine aw_getR (n := 49) (j := 44) (r := 116) hG.1 fl_RX12_109 (sF_88 hS) rfl dX12_fairOn_46 rfl ?_
    refine aw_cSv (M := M_X12_fairOn) (n := 52) (As := [.ref 117, .ref 116]) (rest := []) lk_RX12_383 rfl rfl (c_X12_be hG hS (h := Ok.bind h) (sF_117 hS) (sF_116 hS)) (by decide) (Nat.le_of_ble_eq_true rfl) (by decide) (by decide) dX12_fairOn_49 rfl (fun D_11 h => ?_)
    exact aw_vret rfl (by decide) (by decide) dX12_fairOn_52 ⟨rfl, rfl, (Ok.dn h :)⟩
  have hJ_102 : ∀ (D : aD), Ok (J_X12_fairOn_102 (N_X12_fairOn 2) D) K → AW G (aRm 8 0 0) M_X12_fairOn fr 0 0 102 [none, none, none, none] [] shp D (aQv shp K) := by
    intro D h
    unfold J_X12_fairOn_102 at h
    exact aw_vret rfl (by decide) (by decide) dX12_fairOn_102 ⟨rfl, rfl, (Ok.dn h :)⟩
  have hJ_55 : ∀ (v1 : Int32) (v2 : Int32) (v3 : Int32) (D : aD), Ok (J_X12_fairOn_55 (N_X12_fairOn 2) v1 v2 v3 D) K → AW G (aRm 8 0 0) M_X12_fairOn fr 0 0 55 [some (.ref 88), some (.int v1), some (.int v2), some (.int v3)] [] shp D (aQv shp K) := by
    intro v1 v2 v3 D h
    unfold J_X12_fairOn_55 at h
    refine Ok.lp (P := fun s => AW G (aRm 8 0 0) M_X12_fairOn fr 0 0 55 [some (.ref 88), some (.int v1), some (.int v2), some (.int (s.1))] [] shp s.2 (aQv shp K)) (fun s Kb55 hL55 hR55 h => ?_) (v3, D) (Ok.bind h)
    obtain ⟨v3, D⟩ := s
    replace h : Ok (B_X12_fairOn_55 (N_X12_fairOn 2) v1 v2 v3 D) Kb55 := h
    unfold B_X12_fairOn_55 at h
    refine aw_iload_n (n := 56) (i := 3) dX12_fairOn_55 rfl rfl rfl ?_
    refine aw_aload_n (n := 57) (i := 0) dX12_fairOn_56 rfl rfl rfl ?_
    refine aw_getR (n := 60) (j := 3) (r := 91) hG.1 fl_RX12_27 (sF_88 hS) rfl dX12_fairOn_57 rfl ?_
    refine aw_iconst (n := 61) (v := 5) dX12_fairOn_60 rfl (by decide) ?_
    obtain ⟨g_2, h⟩ := Ok.gd h
    refine aw_iaload (n := 62) hG.1 (sF_91 hS) (aIn_in g_2) dX12_fairOn_61 rfl ?_
    refine aw_icmp_ge (n := 65) (tgt := 102) dX12_fairOn_62 rfl (by decide) (fun c => ?_) (fun c => ?_)
    · replace h := Ok.ift h c
      exact aw_le' (hJ_102 D (hR55 D (Ok.dn h :))) trivial
    · replace h := Ok.iff h c
      refine aw_iload_n (n := 66) (i := 2) dX12_fairOn_65 rfl rfl rfl ?_
      refine aw_iload_n (n := 67) (i := 3) dX12_fairOn_66 rfl rfl rfl ?_
      refine aw_ishr (n := 68) dX12_fairOn_67 rfl ?_
      refine aw_iconst (n := 69) (v := 1) dX12_fairOn_68 rfl (by decide) ?_
      refine aw_iand (n := 70) dX12_fairOn_69 rfl ?_
      refine aw_iconst (n := 71) (v := 1) dX12_fairOn_70 rfl (by decide) ?_
      refine aw_icmp_ne (n := 74) (tgt := 77) dX12_fairOn_71 rfl (by decide) (fun c => ?_) (fun c => ?_)
      · replace h := Ok.ift h c
        refine aw_aload_n (n := 78) (i := 0) dX12_fairOn_77 rfl rfl rfl ?_
        refine aw_getR (n := 81) (j := 44) (r := 116) hG.1 fl_RX12_109 (sF_88 hS) rfl dX12_fairOn_78 rfl ?_
        refine aw_iload_n (n := 82) (i := 1) dX12_fairOn_81 rfl rfl rfl ?_
        refine aw_iload_n (n := 83) (i := 3) dX12_fairOn_82 rfl rfl rfl ?_
        obtain ⟨g_3, h⟩ := Ok.gd h
        obtain ⟨D_4, e_D_4, h⟩ := Ok.let_ h
        refine aw_iastore (n := 84) hG.1 (sF_116 hS) (aIn_in g_3) e_D_4 dX12_fairOn_83 rfl ?_
        refine aw_aload_n (n := 85) (i := 0) dX12_fairOn_84 rfl rfl rfl ?_
        refine aw_iload_n (n := 86) (i := 1) dX12_fairOn_85 rfl rfl rfl ?_
        refine aw_iconst (n := 87) (v := 1) dX12_fairOn_86 rfl (by decide) ?_
        refine aw_iadd (n := 88) dX12_fairOn_87 rfl ?_
        refine aw_iload_n (n := 89) (i := 2) dX12_fairOn_88 rfl rfl rfl ?_
        refine aw_iconst (n := 90) (v := 1) dX12_fairOn_89 rfl (by decide) ?_
        refine aw_iload_n (n := 91) (i := 3) dX12_fairOn_90 rfl rfl rfl ?_
        refine aw_ishl (n := 92) dX12_fairOn_91 rfl ?_
        refine aw_ior (n := 93) dX12_fairOn_92 rfl ?_
        refine aw_cVv (M := M_X12_fairOn) (n := 96) (As := [.int (v1 + 1), .int (v2 ||| ((1 : Int32) <<< (v3 &&& 31)))]) (rest := []) hG.1 lk_RX12_400 rfl rfl (sF_88 hS) (c_X12_fairOn_L2 hG hS (h := Ok.bind h)) (by decide) (Nat.le_of_ble_eq_true rfl) (by decide) (by decide) dX12_fairOn_93 rfl (fun D_5 h => ?_)
        obtain ⟨v3_6, e_v3_6, h⟩ := Ok.let_ h
        refine aw_iinc (n := 99) (al' := [some (.ref 88), some (.int v1), some (.int v2), some (.int v3_6)]) dX12_fairOn_96 rfl rfl e_v3_6 (by decide) rfl ?_
        refine aw_goto (tgt := 55) dX12_fairOn_99 (by decide) ?_
        exact aw_le' (hL55 (v3_6, D_5) (Ok.dn h :)) ⟨rfl, ⟨rfl, ⟨rfl, ⟨rfl, trivial⟩⟩⟩⟩
      · replace h := Ok.iffn h c
        refine aw_goto (tgt := 96) dX12_fairOn_74 (by decide) ?_
        obtain ⟨v3_7, e_v3_7, h⟩ := Ok.let_ h
        refine aw_iinc (n := 99) (al' := [some (.ref 88), some (.int v1), some (.int v2), some (.int v3_7)]) dX12_fairOn_96 rfl rfl e_v3_7 (by decide) rfl ?_
        refine aw_goto (tgt := 55) dX12_fairOn_99 (by decide) ?_
        exact aw_le' (hL55 (v3_7, D) (Ok.dn h :)) ⟨rfl, ⟨rfl, ⟨rfl, ⟨rfl, trivial⟩⟩⟩⟩
  refine aw_iload_n (n := 1) (i := 1) dX12_fairOn_0 rfl rfl rfl ?_
  refine aw_aload_n (n := 2) (i := 0) dX12_fairOn_1 rfl rfl rfl ?_
  refine aw_getR (n := 5) (j := 3) (r := 91) hG.1 fl_RX12_27 (sF_88 hS) rfl dX12_fairOn_2 rfl ?_
  refine aw_iconst (n := 6) (v := 5) dX12_fairOn_5 rfl (by decide) ?_
  obtain ⟨g_1, h⟩ := Ok.gd h
  refine aw_iaload (n := 7) hG.1 (sF_91 hS) (aIn_in g_1) dX12_fairOn_6 rfl ?_
  refine aw_icmp_ne (n := 10) (tgt := 53) dX12_fairOn_7 rfl (by decide) (fun c => ?_) (fun c => ?_)
  · replace h := Ok.ift h c
    refine aw_iconst (n := 54) (v := 0) dX12_fairOn_53 rfl (by decide) ?_
    refine aw_istore_n (n := 55) (i := 3) (al' := [some (.ref 88), some (.int v1), some (.int v2), some (.int 0)]) dX12_fairOn_54 rfl rfl rfl (by decide) rfl ?_
    exact aw_le' (hJ_55 v1 v2 0 D h) ⟨rfl, ⟨rfl, ⟨rfl, ⟨rfl, trivial⟩⟩⟩⟩
  · replace h := Ok.iffn h c
    refine aw_aload_n (n := 11) (i := 0) dX12_fairOn_10 rfl rfl rfl ?_
    refine aw_aload_n (n := 12) (i := 0) dX12_fairOn_11 rfl rfl rfl ?_
    refine aw_getR (n := 15) (j := 44) (r := 116) hG.1 fl_RX12_109 (sF_88 hS) rfl dX12_fairOn_12 rfl ?_
    refine aw_cVi (M := M_X12_fairOn) (n := 18) (As := [.ref 116]) (rest := []) hG.1 lk_RX12_394 rfl rfl (sF_88 hS) (c_X12_differenceBy hG hS (h := Ok.bi h) (sF_116 hS)) (by decide) (Nat.le_of_ble_eq_true rfl) (by decide) (by decide) dX12_fairOn_15 rfl (fun y_8 D_9 h => ?_)
    refine aw_istore_n (n := 19) (i := 3) (al' := [some (.ref 88), some (.int v1), some (.int v2), some (.int y_8)]) dX12_fairOn_18 rfl rfl rfl (by decide) rfl ?_
    refine aw_aload_n (n := 20) (i := 0) dX12_fairOn_19 rfl rfl rfl ?_
    refine aw_getI (n := 23) (j := 46) hG.1 fl_RX12_397 (sF_88 hS) rfl dX12_fairOn_20 rfl ?_
    refine aw_iconst (n := 24) (v := (-1)) dX12_fairOn_23 rfl (by decide) ?_
    refine aw_icmp_eq (n := 27) (tgt := 36) dX12_fairOn_24 rfl (by decide) (fun c => ?_) (fun c => ?_)
    · replace h := Ok.ift h c
      exact aw_le' (hJ_36 y_8 D_9 h) ⟨rfl, ⟨rfl, trivial⟩⟩
    · replace h := Ok.iff h c
      refine aw_iload_n (n := 28) (i := 3) dX12_fairOn_27 rfl rfl rfl ?_
      refine aw_aload_n (n := 29) (i := 0) dX12_fairOn_28 rfl rfl rfl ?_
      refine aw_getI (n := 32) (j := 46) hG.1 fl_RX12_397 (sF_88 hS) rfl dX12_fairOn_29 rfl ?_
      refine aw_icmp_lt (n := 35) (tgt := 36) dX12_fairOn_32 rfl (by decide) (fun c => ?_) (fun c => ?_)
      · replace h := Ok.ift h c
        exact aw_le' (hJ_36 y_8 D_9 h) ⟨rfl, ⟨rfl, trivial⟩⟩
      · replace h := Ok.iff h c
        exact aw_vret rfl (by decide) (by decide) dX12_fairOn_35 ⟨rfl, rfl, (Ok.dn h :)⟩
set_option maxRecDepth 100000 in
set_option maxHeartbeats 800000 in
theorem c_X12_fairOn_L4 {G : aG} (hG : gOK G) {shp : List aSh} (hS : aShp shp) {fr : Option Nat} {v1 : Int32} {v2 : Int32} {D : aD} {K : aD → Prop} (h : Ok (N_X12_fairOn 4 v1 v2 D) K) : AC G (aRm 9 0 0) M_X12_fairOn [.ref 88, .int v1, .int v2] fr shp D (aQv shp K) := by
  replace h : Ok (F_X12_fairOn (N_X12_fairOn 3) v1 v2 D) K := h
  unfold F_X12_fairOn at h
  refine AC.of (al := [some (.ref 88), some (.int v1), some (.int v2), none]) (r := 1) (by decide) (Nat.le_of_ble_eq_true rfl) rfl ?_
  have hJ_36 : ∀ (v3 : Int32) (D : aD), Ok (J_X12_fairOn_36 (N_X12_fairOn 3) v3 D) K → AW G (aRm 9 0 0) M_X12_fairOn fr 0 0 36 [some (.ref 88), none, none, some (.int v3)] [] shp D (aQv shp K) := by
    intro v3 D h
    unfold J_X12_fairOn_36 at h
    refine aw_aload_n (n := 37) (i := 0) dX12_fairOn_36 rfl rfl rfl ?_
    refine aw_iload_n (n := 38) (i := 3) dX12_fairOn_37 rfl rfl rfl ?_
    obtain ⟨D_10, e_D_10, h⟩ := Ok.let_ h
    refine aw_putI (n := 41) (j := 46) hG.1 fl_RX12_397 (sF_88 hS) rfl e_D_10 dX12_fairOn_38 rfl ?_
    refine aw_aload_n (n := 42) (i := 0) dX12_fairOn_41 rfl rfl rfl ?_
    refine aw_getR (n := 45) (j := 45) (r := 117) hG.1 fl_RX12_112 (sF_88 hS) rfl dX12_fairOn_42 rfl ?_
    refine aw_aload_n (n := 46) (i := 0) dX12_fairOn_45 rfl rfl rfl ?_
    refine aw_getR (n := 49) (j := 44) (r := 116) hG.1 fl_RX12_109 (sF_88 hS) rfl dX12_fairOn_46 rfl ?_
    refine aw_cSv (M := M_X12_fairOn) (n := 52) (As := [.ref 117, .ref 116]) (rest := []) lk_RX12_383 rfl rfl (c_X12_be hG hS (h := Ok.bind h) (sF_117 hS) (sF_116 hS)) (by decide) (Nat.le_of_ble_eq_true rfl) (by decide) (by decide) dX12_fairOn_49 rfl (fun D_11 h => ?_)
    exact aw_vret rfl (by decide) (by decide) dX12_fairOn_52 ⟨rfl, rfl, (Ok.dn h :)⟩
  have hJ_102 : ∀ (D : aD), Ok (J_X12_fairOn_102 (N_X12_fairOn 3) D) K → AW G (aRm 9 0 0) M_X12_fairOn fr 0 0 102 [none, none, none, none] [] shp D (aQv shp K) := by
    intro D h
    unfold J_X12_fairOn_102 at h
    exact aw_vret rfl (by decide) (by decide) dX12_fairOn_102 ⟨rfl, rfl, (Ok.dn h :)⟩
  have hJ_55 : ∀ (v1 : Int32) (v2 : Int32) (v3 : Int32) (D : aD), Ok (J_X12_fairOn_55 (N_X12_fairOn 3) v1 v2 v3 D) K → AW G (aRm 9 0 0) M_X12_fairOn fr 0 0 55 [some (.ref 88), some (.int v1), some (.int v2), some (.int v3)] [] shp D (aQv shp K) := by
    intro v1 v2 v3 D h
    unfold J_X12_fairOn_55 at h
    refine Ok.lp (P := fun s => AW G (aRm 9 0 0) M_X12_fairOn fr 0 0 55 [some (.ref 88), some (.int v1), some (.int v2), some (.int (s.1))] [] shp s.2 (aQv shp K)) (fun s Kb55 hL55 hR55 h => ?_) (v3, D) (Ok.bind h)
    obtain ⟨v3, D⟩ := s
    replace h : Ok (B_X12_fairOn_55 (N_X12_fairOn 3) v1 v2 v3 D) Kb55 := h
    unfold B_X12_fairOn_55 at h
    refine aw_iload_n (n := 56) (i := 3) dX12_fairOn_55 rfl rfl rfl ?_
    refine aw_aload_n (n := 57) (i := 0) dX12_fairOn_56 rfl rfl rfl ?_
    refine aw_getR (n := 60) (j := 3) (r := 91) hG.1 fl_RX12_27 (sF_88 hS) rfl dX12_fairOn_57 rfl ?_
    refine aw_iconst (n := 61) (v := 5) dX12_fairOn_60 rfl (by decide) ?_
    obtain ⟨g_2, h⟩ := Ok.gd h
    refine aw_iaload (n := 62) hG.1 (sF_91 hS) (aIn_in g_2) dX12_fairOn_61 rfl ?_
    refine aw_icmp_ge (n := 65) (tgt := 102) dX12_fairOn_62 rfl (by decide) (fun c => ?_) (fun c => ?_)
    · replace h := Ok.ift h c
      exact aw_le' (hJ_102 D (hR55 D (Ok.dn h :))) trivial
    · replace h := Ok.iff h c
      refine aw_iload_n (n := 66) (i := 2) dX12_fairOn_65 rfl rfl rfl ?_
      refine aw_iload_n (n := 67) (i := 3) dX12_fairOn_66 rfl rfl rfl ?_
      refine aw_ishr (n := 68) dX12_fairOn_67 rfl ?_
      refine aw_iconst (n := 69) (v := 1) dX12_fairOn_68 rfl (by decide) ?_
      refine aw_iand (n := 70) dX12_fairOn_69 rfl ?_
      refine aw_iconst (n := 71) (v := 1) dX12_fairOn_70 rfl (by decide) ?_
      refine aw_icmp_ne (n := 74) (tgt := 77) dX12_fairOn_71 rfl (by decide) (fun c => ?_) (fun c => ?_)
      · replace h := Ok.ift h c
        refine aw_aload_n (n := 78) (i := 0) dX12_fairOn_77 rfl rfl rfl ?_
        refine aw_getR (n := 81) (j := 44) (r := 116) hG.1 fl_RX12_109 (sF_88 hS) rfl dX12_fairOn_78 rfl ?_
        refine aw_iload_n (n := 82) (i := 1) dX12_fairOn_81 rfl rfl rfl ?_
        refine aw_iload_n (n := 83) (i := 3) dX12_fairOn_82 rfl rfl rfl ?_
        obtain ⟨g_3, h⟩ := Ok.gd h
        obtain ⟨D_4, e_D_4, h⟩ := Ok.let_ h
        refine aw_iastore (n := 84) hG.1 (sF_116 hS) (aIn_in g_3) e_D_4 dX12_fairOn_83 rfl ?_
        refine aw_aload_n (n := 85) (i := 0) dX12_fairOn_84 rfl rfl rfl ?_
        refine aw_iload_n (n := 86) (i := 1) dX12_fairOn_85 rfl rfl rfl ?_
        refine aw_iconst (n := 87) (v := 1) dX12_fairOn_86 rfl (by decide) ?_
        refine aw_iadd (n := 88) dX12_fairOn_87 rfl ?_
        refine aw_iload_n (n := 89) (i := 2) dX12_fairOn_88 rfl rfl rfl ?_
        refine aw_iconst (n := 90) (v := 1) dX12_fairOn_89 rfl (by decide) ?_
        refine aw_iload_n (n := 91) (i := 3) dX12_fairOn_90 rfl rfl rfl ?_
        refine aw_ishl (n := 92) dX12_fairOn_91 rfl ?_
        refine aw_ior (n := 93) dX12_fairOn_92 rfl ?_
        refine aw_cVv (M := M_X12_fairOn) (n := 96) (As := [.int (v1 + 1), .int (v2 ||| ((1 : Int32) <<< (v3 &&& 31)))]) (rest := []) hG.1 lk_RX12_400 rfl rfl (sF_88 hS) (c_X12_fairOn_L3 hG hS (h := Ok.bind h)) (by decide) (Nat.le_of_ble_eq_true rfl) (by decide) (by decide) dX12_fairOn_93 rfl (fun D_5 h => ?_)
        obtain ⟨v3_6, e_v3_6, h⟩ := Ok.let_ h
        refine aw_iinc (n := 99) (al' := [some (.ref 88), some (.int v1), some (.int v2), some (.int v3_6)]) dX12_fairOn_96 rfl rfl e_v3_6 (by decide) rfl ?_
        refine aw_goto (tgt := 55) dX12_fairOn_99 (by decide) ?_
        exact aw_le' (hL55 (v3_6, D_5) (Ok.dn h :)) ⟨rfl, ⟨rfl, ⟨rfl, ⟨rfl, trivial⟩⟩⟩⟩
      · replace h := Ok.iffn h c
        refine aw_goto (tgt := 96) dX12_fairOn_74 (by decide) ?_
        obtain ⟨v3_7, e_v3_7, h⟩ := Ok.let_ h
        refine aw_iinc (n := 99) (al' := [some (.ref 88), some (.int v1), some (.int v2), some (.int v3_7)]) dX12_fairOn_96 rfl rfl e_v3_7 (by decide) rfl ?_
        refine aw_goto (tgt := 55) dX12_fairOn_99 (by decide) ?_
        exact aw_le' (hL55 (v3_7, D) (Ok.dn h :)) ⟨rfl, ⟨rfl, ⟨rfl, ⟨rfl, trivial⟩⟩⟩⟩
  refine aw_iload_n (n := 1) (i := 1) dX12_fairOn_0 rfl rfl rfl ?_
  refine aw_aload_n (n := 2) (i := 0) dX12_fairOn_1 rfl rfl rfl ?_
  refine aw_getR (n := 5) (j := 3) (r := 91) hG.1 fl_RX12_27 (sF_88 hS) rfl dX12_fairOn_2 rfl ?_
  refine aw_iconst (n := 6) (v := 5) dX12_fairOn_5 rfl (by decide) ?_
  obtain ⟨g_1, h⟩ := Ok.gd h
  refine aw_iaload (n := 7) hG.1 (sF_91 hS) (aIn_in g_1) dX12_fairOn_6 rfl ?_
  refine aw_icmp_ne (n := 10) (tgt := 53) dX12_fairOn_7 rfl (by decide) (fun c => ?_) (fun c => ?_)
  · replace h := Ok.ift h c
    refine aw_iconst (n := 54) (v := 0) dX12_fairOn_53 rfl (by decide) ?_
    refine aw_istore_n (n := 55) (i := 3) (al' := [some (.ref 88), some (.int v1), some (.int v2), some (.int 0)]) dX12_fairOn_54 rfl rfl rfl (by decide) rfl ?_
    exact aw_le' (hJ_55 v1 v2 0 D h) ⟨rfl, ⟨rfl, ⟨rfl, ⟨rfl, trivial⟩⟩⟩⟩
  · replace h := Ok.iffn h c
    refine aw_aload_n (n := 11) (i := 0) dX12_fairOn_10 rfl rfl rfl ?_
    refine aw_aload_n (n := 12) (i := 0) dX12_fairOn_11 rfl rfl rfl ?_
    refine aw_getR (n := 15) (j := 44) (r := 116) hG.1 fl_RX12_109 (sF_88 hS) rfl dX12_fairOn_12 rfl ?_
    refine aw_cVi (M := M_X12_fairOn) (n := 18) (As := [.ref 116]) (rest := []) hG.1 lk_RX12_394 rfl rfl (sF_88 hS) (c_X12_differenceBy hG hS (h := Ok.bi h) (sF_116 hS)) (by decide) (Nat.le_of_ble_eq_true rfl) (by decide) (by decide) dX12_fairOn_15 rfl (fun y_8 D_9 h => ?_)
    refine aw_istore_n (n := 19) (i := 3) (al' := [some (.ref 88), some (.int v1), some (.int v2), some (.int y_8)]) dX12_fairOn_18 rfl rfl rfl (by decide) rfl ?_
    refine aw_aload_n (n := 20) (i := 0) dX12_fairOn_19 rfl rfl rfl ?_
    refine aw_getI (n := 23) (j := 46) hG.1 fl_RX12_397 (sF_88 hS) rfl dX12_fairOn_20 rfl ?_
    refine aw_iconst (n := 24) (v := (-1)) dX12_fairOn_23 rfl (by decide) ?_
    refine aw_icmp_eq (n := 27) (tgt := 36) dX12_fairOn_24 rfl (by decide) (fun c => ?_) (fun c => ?_)
    · replace h := Ok.ift h c
      exact aw_le' (hJ_36 y_8 D_9 h) ⟨rfl, ⟨rfl, trivial⟩⟩
    · replace h := Ok.iff h c
      refine aw_iload_n (n := 28) (i := 3) dX12_fairOn_27 rfl rfl rfl ?_
      refine aw_aload_n (n := 29) (i := 0) dX12_fairOn_28 rfl rfl rfl ?_
      refine aw_getI (n := 32) (j := 46) hG.1 fl_RX12_397 (sF_88 hS) rfl dX12_fairOn_29 rfl ?_
      refine aw_icmp_lt (n := 35) (tgt := 36) dX12_fairOn_32 rfl (by decide) (fun c => ?_) (fun c => ?_)
      · replace h := Ok.ift h c
        exact aw_le' (hJ_36 y_8 D_9 h) ⟨rfl, ⟨rfl, trivial⟩⟩
      · replace h := Ok.iff h c
        exact aw_vret rfl (by decide) (by decide) dX12_fairOn_35 ⟨rfl, rfl, (Ok.dn h :)⟩
set_option maxRecDepth 100000 in
set_option maxHeartbeats 800000 in
theorem c_X12_fairOn_L5 {G : aG} (hG : gOK G) {shp : List aSh} (hS : aShp shp) {fr : Option Nat} {v1 : Int32} {v2 : Int32} {D : aD} {K : aD → Prop} (h : Ok (N_X12_fairOn 5 v1 v2 D) K) : AC G (aRm 10 0 0) M_X12_fairOn [.ref 88, .int v1, .int v2] fr shp D (aQv shp K) := by
  replace h : Ok (F_X12_fairOn (N_X12_fairOn 4) v1 v2 D) K := h
  unfold F_X12_fairOn at h
  refine AC.of (al := [some (.ref 88), some (.int v1), some (.int v2), none]) (r := 1) (by decide) (Nat.le_of_ble_eq_true rfl) rfl ?_
  have hJ_36 : ∀ (v3 : Int32) (D : aD), Ok (J_X12_fairOn_36 (N_X12_fairOn 4) v3 D) K → AW G (aRm 10 0 0) M_X12_fairOn fr 0 0 36 [some (.ref 88), none, none, some (.int v3)] [] shp D (aQv shp K) := by
    intro v3 D h
    unfold J_X12_fairOn_36 at h
    refine aw_aload_n (n := 37) (i := 0) dX12_fairOn_36 rfl rfl rfl ?_
    refine aw_iload_n (n := 38) (i := 3) dX12_fairOn_37 rfl rfl rfl ?_
    obtain ⟨D_10, e_D_10, h⟩ := Ok.let_ h
    refine aw_putI (n := 41) (j := 46) hG.1 fl_RX12_397 (sF_88 hS) rfl e_D_10 dX12_fairOn_38 rfl ?_
    refine aw_aload_n (n := 42) (i := 0) dX12_fairOn_41 rfl rfl rfl ?_
    refine aw_getR (n := 45) (j := 45) (r := 117) hG.1 fl_RX12_112 (sF_88 hS) rfl dX12_fairOn_42 rfl ?_
    refine aw_aload_n (n := 46) (i := 0) dX12_fairOn_45 rfl rfl rfl ?_
    refine aw_getR (n := 49) (j := 44) (r := 116) hG.1 fl_RX12_109 (sF_88 hS) rfl dX12_fairOn_46 rfl ?_
    refine aw_cSv (M := M_X12_fairOn) (n := 52) (As := [.ref 117, .ref 116]) (rest := []) lk_RX12_383 rfl rfl (c_X12_be hG hS (h := Ok.bind h) (sF_117 hS) (sF_116 hS)) (by decide) (Nat.le_of_ble_eq_true rfl) (by decide) (by decide) dX12_fairOn_49 rfl (fun D_11 h => ?_)
    exact aw_vret rfl (by decide) (by decide) dX12_fairOn_52 ⟨rfl, rfl, (Ok.dn h :)⟩
  have hJ_102 : ∀ (D : aD), Ok (J_X12_fairOn_102 (N_X12_fairOn 4) D) K → AW G (aRm 10 0 0) M_X12_fairOn fr 0 0 102 [none, none, none, none] [] shp D (aQv shp K) := by
    intro D h
    unfold J_X12_fairOn_102 at h
    exact aw_vret rfl (by decide) (by decide) dX12_fairOn_102 ⟨rfl, rfl, (Ok.dn h :)⟩
  have hJ_55 : ∀ (v1 : Int32) (v2 : Int32) (v3 : Int32) (D : aD), Ok (J_X12_fairOn_55 (N_X12_fairOn 4) v1 v2 v3 D) K → AW G (aRm 10 0 0) M_X12_fairOn fr 0 0 55 [some (.ref 88), some (.int v1), some (.int v2), some (.int v3)] [] shp D (aQv shp K) := by
    intro v1 v2 v3 D h
    unfold J_X12_fairOn_55 at h
    refine Ok.lp (P := fun s => AW G (aRm 10 0 0) M_X12_fairOn fr 0 0 55 [some (.ref 88), some (.int v1), some (.int v2), some (.int (s.1))] [] shp s.2 (aQv shp K)) (fun s Kb55 hL55 hR55 h => ?_) (v3, D) (Ok.bind h)
    obtain ⟨v3, D⟩ := s
    replace h : Ok (B_X12_fairOn_55 (N_X12_fairOn 4) v1 v2 v3 D) Kb55 := h
    unfold B_X12_fairOn_55 at h
    refine aw_iload_n (n := 56) (i := 3) dX12_fairOn_55 rfl rfl rfl ?_
    refine aw_aload_n (n := 57) (i := 0) dX12_fairOn_56 rfl rfl rfl ?_
    refine aw_getR (n := 60) (j := 3) (r := 91) hG.1 fl_RX12_27 (sF_88 hS) rfl dX12_fairOn_57 rfl ?_
    refine aw_iconst (n := 61) (v := 5) dX12_fairOn_60 rfl (by decide) ?_
    obtain ⟨g_2, h⟩ := Ok.gd h
    refine aw_iaload (n := 62) hG.1 (sF_91 hS) (aIn_in g_2) dX12_fairOn_61 rfl ?_
    refine aw_icmp_ge (n := 65) (tgt := 102) dX12_fairOn_62 rfl (by decide) (fun c => ?_) (fun c => ?_)
    · replace h := Ok.ift h c
      exact aw_le' (hJ_102 D (hR55 D (Ok.dn h :))) trivial
    · replace h := Ok.iff h c
      refine aw_iload_n (n := 66) (i := 2) dX12_fairOn_65 rfl rfl rfl ?_
      refine aw_iload_n (n := 67) (i := 3) dX12_fairOn_66 rfl rfl rfl ?_
      refine aw_ishr (n := 68) dX12_fairOn_67 rfl ?_
      refine aw_iconst (n := 69) (v := 1) dX12_fairOn_68 rfl (by decide) ?_
      refine aw_iand (n := 70) dX12_fairOn_69 rfl ?_
      refine aw_iconst (n := 71) (v := 1) dX12_fairOn_70 rfl (by decide) ?_
      refine aw_icmp_ne (n := 74) (tgt := 77) dX12_fairOn_71 rfl (by decide) (fun c => ?_) (fun c => ?_)
      · replace h := Ok.ift h c
        refine aw_aload_n (n := 78) (i := 0) dX12_fairOn_77 rfl rfl rfl ?_
        refine aw_getR (n := 81) (j := 44) (r := 116) hG.1 fl_RX12_109 (sF_88 hS) rfl dX12_fairOn_78 rfl ?_
        refine aw_iload_n (n := 82) (i := 1) dX12_fairOn_81 rfl rfl rfl ?_
        refine aw_iload_n (n := 83) (i := 3) dX12_fairOn_82 rfl rfl rfl ?_
        obtain ⟨g_3, h⟩ := Ok.gd h
        obtain ⟨D_4, e_D_4, h⟩ := Ok.let_ h
        refine aw_iastore (n := 84) hG.1 (sF_116 hS) (aIn_in g_3) e_D_4 dX12_fairOn_83 rfl ?_
        refine aw_aload_n (n := 85) (i := 0) dX12_fairOn_84 rfl rfl rfl ?_
        refine aw_iload_n (n := 86) (i := 1) dX12_fairOn_85 rfl rfl rfl ?_
        refine aw_iconst (n := 87) (v := 1) dX12_fairOn_86 rfl (by decide) ?_
        refine aw_iadd (n := 88) dX12_fairOn_87 rfl ?_
        refine aw_iload_n (n := 89) (i := 2) dX12_fairOn_88 rfl rfl rfl ?_
        refine aw_iconst (n := 90) (v := 1) dX12_fairOn_89 rfl (by decide) ?_
        refine aw_iload_n (n := 91) (i := 3) dX12_fairOn_90 rfl rfl rfl ?_
        refine aw_ishl (n := 92) dX12_fairOn_91 rfl ?_
        refine aw_ior (n := 93) dX12_fairOn_92 rfl ?_
        refine aw_cVv (M := M_X12_fairOn) (n := 96) (As := [.int (v1 + 1), .int (v2 ||| ((1 : Int32) <<< (v3 &&& 31)))]) (rest := []) hG.1 lk_RX12_400 rfl rfl (sF_88 hS) (c_X12_fairOn_L4 hG hS (h := Ok.bind h)) (by decide) (Nat.le_of_ble_eq_true rfl) (by decide) (by decide) dX12_fairOn_93 rfl (fun D_5 h => ?_)
        obtain ⟨v3_6, e_v3_6, h⟩ := Ok.let_ h
        refine aw_iinc (n := 99) (al' := [some (.ref 88), some (.int v1), some (.int v2), some (.int v3_6)]) dX12_fairOn_96 rfl rfl e_v3_6 (by decide) rfl ?_
        refine aw_goto (tgt := 55) dX12_fairOn_99 (by decide) ?_
        exact aw_le' (hL55 (v3_6, D_5) (Ok.dn h :)) ⟨rfl, ⟨rfl, ⟨rfl, ⟨rfl, trivial⟩⟩⟩⟩
      · replace h := Ok.iffn h c
        refine aw_goto (tgt := 96) dX12_fairOn_74 (by decide) ?_
        obtain ⟨v3_7, e_v3_7, h⟩ := Ok.let_ h
        refine aw_iinc (n := 99) (al' := [some (.ref 88), some (.int v1), some (.int v2), some (.int v3_7)]) dX12_fairOn_96 rfl rfl e_v3_7 (by decide) rfl ?_
        refine aw_goto (tgt := 55) dX12_fairOn_99 (by decide) ?_
        exact aw_le' (hL55 (v3_7, D) (Ok.dn h :)) ⟨rfl, ⟨rfl, ⟨rfl, ⟨rfl, trivial⟩⟩⟩⟩
  refine aw_iload_n (n := 1) (i := 1) dX12_fairOn_0 rfl rfl rfl ?_
  refine aw_aload_n (n := 2) (i := 0) dX12_fairOn_1 rfl rfl rfl ?_
  refine aw_getR (n := 5) (j := 3) (r := 91) hG.1 fl_RX12_27 (sF_88 hS) rfl dX12_fairOn_2 rfl ?_
  refine aw_iconst (n := 6) (v := 5) dX12_fairOn_5 rfl (by decide) ?_
  obtain ⟨g_1, h⟩ := Ok.gd h
  refine aw_iaload (n := 7) hG.1 (sF_91 hS) (aIn_in g_1) dX12_fairOn_6 rfl ?_
  refine aw_icmp_ne (n := 10) (tgt := 53) dX12_fairOn_7 rfl (by decide) (fun c => ?_) (fun c => ?_)
  · replace h := Ok.ift h c
    refine aw_iconst (n := 54) (v := 0) dX12_fairOn_53 rfl (by decide) ?_
    refine aw_istore_n (n := 55) (i := 3) (al' := [some (.ref 88), some (.int v1), some (.int v2), some (.int 0)]) dX12_fairOn_54 rfl rfl rfl (by decide) rfl ?_
    exact aw_le' (hJ_55 v1 v2 0 D h) ⟨rfl, ⟨rfl, ⟨rfl, ⟨rfl, trivial⟩⟩⟩⟩
  · replace h := Ok.iffn h c
    refine aw_aload_n (n := 11) (i := 0) dX12_fairOn_10 rfl rfl rfl ?_
    refine aw_aload_n (n := 12) (i := 0) dX12_fairOn_11 rfl rfl rfl ?_
    refine aw_getR (n := 15) (j := 44) (r := 116) hG.1 fl_RX12_109 (sF_88 hS) rfl dX12_fairOn_12 rfl ?_
    refine aw_cVi (M := M_X12_fairOn) (n := 18) (As := [.ref 116]) (rest := []) hG.1 lk_RX12_394 rfl rfl (sF_88 hS) (c_X12_differenceBy hG hS (h := Ok.bi h) (sF_116 hS)) (by decide) (Nat.le_of_ble_eq_true rfl) (by decide) (by decide) dX12_fairOn_15 rfl (fun y_8 D_9 h => ?_)
    refine aw_istore_n (n := 19) (i := 3) (al' := [some (.ref 88), some (.int v1), some (.int v2), some (.int y_8)]) dX12_fairOn_18 rfl rfl rfl (by decide) rfl ?_
    refine aw_aload_n (n := 20) (i := 0) dX12_fairOn_19 rfl rfl rfl ?_
    refine aw_getI (n := 23) (j := 46) hG.1 fl_RX12_397 (sF_88 hS) rfl dX12_fairOn_20 rfl ?_
    refine aw_iconst (n := 24) (v := (-1)) dX12_fairOn_23 rfl (by decide) ?_
    refine aw_icmp_eq (n := 27) (tgt := 36) dX12_fairOn_24 rfl (by decide) (fun c => ?_) (fun c => ?_)
    · replace h := Ok.ift h c
      exact aw_le' (hJ_36 y_8 D_9 h) ⟨rfl, ⟨rfl, trivial⟩⟩
    · replace h := Ok.iff h c
      refine aw_iload_n (n := 28) (i := 3) dX12_fairOn_27 rfl rfl rfl ?_
      refine aw_aload_n (n := 29) (i := 0) dX12_fairOn_28 rfl rfl rfl ?_
      refine aw_getI (n := 32) (j := 46) hG.1 fl_RX12_397 (sF_88 hS) rfl dX12_fairOn_29 rfl ?_
      refine aw_icmp_lt (n := 35) (tgt := 36) dX12_fairOn_32 rfl (by decide) (fun c => ?_) (fun c => ?_)
      · replace h := Ok.ift h c
        exact aw_le' (hJ_36 y_8 D_9 h) ⟨rfl, ⟨rfl, trivial⟩⟩
      · replace h := Ok.iff h c
        exact aw_vret rfl (by decide) (by decide) dX12_fairOn_35 ⟨rfl, rfl, (Ok.dn h :)⟩
set_option maxRecDepth 100000 in
set_option maxHeartbeats 800000 in
theorem c_X12_fairOn_L6 {G : aG} (hG : gOK G) {shp : List aSh} (hS : aShp shp) {fr : Option Nat} {v1 : Int32} {v2 : Int32} {D : aD} {K : aD → Prop} (h : Ok (N_X12_fairOn 6 v1 v2 D) K) : AC G (aRm 11 0 0) M_X12_fairOn [.ref 88, .int v1, .int v2] fr shp D (aQv shp K) := by
  replace h : Ok (F_X12_fairOn (N_X12_fairOn 5) v1 v2 D) K := h
  unfold F_X12_fairOn at h
  refine AC.of (al := [some (.ref 88), some (.int v1), some (.int v2), none]) (r := 1) (by decide) (Nat.le_of_ble_eq_true rfl) rfl ?_
  have hJ_36 : ∀ (v3 : Int32) (D : aD), Ok (J_X12_fairOn_36 (N_X12_fairOn 5) v3 D) K → AW G (aRm 11 0 0) M_X12_fairOn fr 0 0 36 [some (.ref 88), none, none, some (.int v3)] [] shp D (aQv shp K) := by
    intro v3 D h
    unfold J_X12_fairOn_36 at h
    refine aw_aload_n (n := 37) (i := 0) dX12_fairOn_36 rfl rfl rfl ?_
    refine aw_iload_n (n := 38) (i := 3) dX12_fairOn_37 rfl rfl rfl ?_
    obtain ⟨D_10, e_D_10, h⟩ := Ok.let_ h
    refine aw_putI (n := 41) (j := 46) hG.1 fl_RX12_397 (sF_88 hS) rfl e_D_10 dX12_fairOn_38 rfl ?_
    refine aw_aload_n (n := 42) (i := 0) dX12_fairOn_41 rfl rfl rfl ?_
    refine aw_getR (n := 45) (j := 45) (r := 117) hG.1 fl_RX12_112 (sF_88 hS) rfl dX12_fairOn_42 rfl ?_
    refine aw_aload_n (n := 46) (i := 0) dX12_fairOn_45 rfl rfl rfl ?_
    refine aw_getR (n := 49) (j := 44) (r := 116) hG.1 fl_RX12_109 (sF_88 hS) rfl dX12_fairOn_46 rfl ?_
    refine aw_cSv (M := M_X12_fairOn) (n := 52) (As := [.ref 117, .ref 116]) (rest := []) lk_RX12_383 rfl rfl (c_X12_be hG hS (h := Ok.bind h) (sF_117 hS) (sF_116 hS)) (by decide) (Nat.le_of_ble_eq_true rfl) (by decide) (by decide) dX12_fairOn_49 rfl (fun D_11 h => ?_)
    exact aw_vret rfl (by decide) (by decide) dX12_fairOn_52 ⟨rfl, rfl, (Ok.dn h :)⟩
  have hJ_102 : ∀ (D : aD), Ok (J_X12_fairOn_102 (N_X12_fairOn 5) D) K → AW G (aRm 11 0 0) M_X12_fairOn fr 0 0 102 [none, none, none, none] [] shp D (aQv shp K) := by
    intro D h
    unfold J_X12_fairOn_102 at h
    exact aw_vret rfl (by decide) (by decide) dX12_fairOn_102 ⟨rfl, rfl, (Ok.dn h :)⟩
  have hJ_55 : ∀ (v1 : Int32) (v2 : Int32) (v3 : Int32) (D : aD), Ok (J_X12_fairOn_55 (N_X12_fairOn 5) v1 v2 v3 D) K → AW G (aRm 11 0 0) M_X12_fairOn fr 0 0 55 [some (.ref 88), some (.int v1), some (.int v2), some (.int v3)] [] shp D (aQv shp K) := by
    intro v1 v2 v3 D h
    unfold J_X12_fairOn_55 at h
    refine Ok.lp (P := fun s => AW G (aRm 11 0 0) M_X12_fairOn fr 0 0 55 [some (.ref 88), some (.int v1), some (.int v2), some (.int (s.1))] [] shp s.2 (aQv shp K)) (fun s Kb55 hL55 hR55 h => ?_) (v3, D) (Ok.bind h)
    obtain ⟨v3, D⟩ := s
    replace h : Ok (B_X12_fairOn_55 (N_X12_fairOn 5) v1 v2 v3 D) Kb55 := h
    unfold B_X12_fairOn_55 at h
    refine aw_iload_n (n := 56) (i := 3) dX12_fairOn_55 rfl rfl rfl ?_
    refine aw_aload_n (n := 57) (i := 0) dX12_fairOn_56 rfl rfl rfl ?_
    refine aw_getR (n := 60) (j := 3) (r := 91) hG.1 fl_RX12_27 (sF_88 hS) rfl dX12_fairOn_57 rfl ?_
    refine aw_iconst (n := 61) (v := 5) dX12_fairOn_60 rfl (by decide) ?_
    obtain ⟨g_2, h⟩ := Ok.gd h
    refine aw_iaload (n := 62) hG.1 (sF_91 hS) (aIn_in g_2) dX12_fairOn_61 rfl ?_
    refine aw_icmp_ge (n := 65) (tgt := 102) dX12_fairOn_62 rfl (by decide) (fun c => ?_) (fun c => ?_)
    · replace h := Ok.ift h c
      exact aw_le' (hJ_102 D (hR55 D (Ok.dn h :))) trivial
    · replace h := Ok.iff h c
      refine aw_iload_n (n := 66) (i := 2) dX12_fairOn_65 rfl rfl rfl ?_
      refine aw_iload_n (n := 67) (i := 3) dX12_fairOn_66 rfl rfl rfl ?_
      refine aw_ishr (n := 68) dX12_fairOn_67 rfl ?_
      refine aw_iconst (n := 69) (v := 1) dX12_fairOn_68 rfl (by decide) ?_
      refine aw_iand (n := 70) dX12_fairOn_69 rfl ?_
      refine aw_iconst (n := 71) (v := 1) dX12_fairOn_70 rfl (by decide) ?_
      refine aw_icmp_ne (n := 74) (tgt := 77) dX12_fairOn_71 rfl (by decide) (fun c => ?_) (fun c => ?_)
      · replace h := Ok.ift h c
        refine aw_aload_n (n := 78) (i := 0) dX12_fairOn_77 rfl rfl rfl ?_
        refine aw_getR (n := 81) (j := 44) (r := 116) hG.1 fl_RX12_109 (sF_88 hS) rfl dX12_fairOn_78 rfl ?_
        refine aw_iload_n (n := 82) (i := 1) dX12_fairOn_81 rfl rfl rfl ?_
        refine aw_iload_n (n := 83) (i := 3) dX12_fairOn_82 rfl rfl rfl ?_
        obtain ⟨g_3, h⟩ := Ok.gd h
        obtain ⟨D_4, e_D_4, h⟩ := Ok.let_ h
        refine aw_iastore (n := 84) hG.1 (sF_116 hS) (aIn_in g_3) e_D_4 dX12_fairOn_83 rfl ?_
        refine aw_aload_n (n := 85) (i := 0) dX12_fairOn_84 rfl rfl rfl ?_
        refine aw_iload_n (n := 86) (i := 1) dX12_fairOn_85 rfl rfl rfl ?_
        refine aw_iconst (n := 87) (v := 1) dX12_fairOn_86 rfl (by decide) ?_
        refine aw_iadd (n := 88) dX12_fairOn_87 rfl ?_
        refine aw_iload_n (n := 89) (i := 2) dX12_fairOn_88 rfl rfl rfl ?_
        refine aw_iconst (n := 90) (v := 1) dX12_fairOn_89 rfl (by decide) ?_
        refine aw_iload_n (n := 91) (i := 3) dX12_fairOn_90 rfl rfl rfl ?_
        refine aw_ishl (n := 92) dX12_fairOn_91 rfl ?_
        refine aw_ior (n := 93) dX12_fairOn_92 rfl ?_
        refine aw_cVv (M := M_X12_fairOn) (n := 96) (As := [.int (v1 + 1), .int (v2 ||| ((1 : Int32) <<< (v3 &&& 31)))]) (rest := []) hG.1 lk_RX12_400 rfl rfl (sF_88 hS) (c_X12_fairOn_L5 hG hS (h := Ok.bind h)) (by decide) (Nat.le_of_ble_eq_true rfl) (by decide) (by decide) dX12_fairOn_93 rfl (fun D_5 h => ?_)
        obtain ⟨v3_6, e_v3_6, h⟩ := Ok.let_ h
        refine aw_iinc (n := 99) (al' := [some (.ref 88), some (.int v1), some (.int v2), some (.int v3_6)]) dX12_fairOn_96 rfl rfl e_v3_6 (by decide) rfl ?_
        refine aw_goto (tgt := 55) dX12_fairOn_99 (by decide) ?_
        exact aw_le' (hL55 (v3_6, D_5) (Ok.dn h :)) ⟨rfl, ⟨rfl, ⟨rfl, ⟨rfl, trivial⟩⟩⟩⟩
      · replace h := Ok.iffn h c
        refine aw_goto (tgt := 96) dX12_fairOn_74 (by decide) ?_
        obtain ⟨v3_7, e_v3_7, h⟩ := Ok.let_ h
        refine aw_iinc (n := 99) (al' := [some (.ref 88), some (.int v1), some (.int v2), some (.int v3_7)]) dX12_fairOn_96 rfl rfl e_v3_7 (by decide) rfl ?_
        refine aw_goto (tgt := 55) dX12_fairOn_99 (by decide) ?_
        exact aw_le' (hL55 (v3_7, D) (Ok.dn h :)) ⟨rfl, ⟨rfl, ⟨rfl, ⟨rfl, trivial⟩⟩⟩⟩
  refine aw_iload_n (n := 1) (i := 1) dX12_fairOn_0 rfl rfl rfl ?_
  refine aw_aload_n (n := 2) (i := 0) dX12_fairOn_1 rfl rfl rfl ?_
  refine aw_getR (n := 5) (j := 3) (r := 91) hG.1 fl_RX12_27 (sF_88 hS) rfl dX12_fairOn_2 rfl ?_
  refine aw_iconst (n := 6) (v := 5) dX12_fairOn_5 rfl (by decide) ?_
  obtain ⟨g_1, h⟩ := Ok.gd h
  refine aw_iaload (n := 7) hG.1 (sF_91 hS) (aIn_in g_1) dX12_fairOn_6 rfl ?_
  refine aw_icmp_ne (n := 10) (tgt := 53) dX12_fairOn_7 rfl (by decide) (fun c => ?_) (fun c => ?_)
  · replace h := Ok.ift h c
    refine aw_iconst (n := 54) (v := 0) dX12_fairOn_53 rfl (by decide) ?_
    refine aw_istore_n (n := 55) (i := 3) (al' := [some (.ref 88), some (.int v1), some (.int v2), some (.int 0)]) dX12_fairOn_54 rfl rfl rfl (by decide) rfl ?_
    exact aw_le' (hJ_55 v1 v2 0 D h) ⟨rfl, ⟨rfl, ⟨rfl, ⟨rfl, trivial⟩⟩⟩⟩
  · replace h := Ok.iffn h c
    refine aw_aload_n (n := 11) (i := 0) dX12_fairOn_10 rfl rfl rfl ?_
    refine aw_aload_n (n := 12) (i := 0) dX12_fairOn_11 rfl rfl rfl ?_
    refine aw_getR (n := 15) (j := 44) (r := 116) hG.1 fl_RX12_109 (sF_88 hS) rfl dX12_fairOn_12 rfl ?_
    refine aw_cVi (M := M_X12_fairOn) (n := 18) (As := [.ref 116]) (rest := []) hG.1 lk_RX12_394 rfl rfl (sF_88 hS) (c_X12_differenceBy hG hS (h := Ok.bi h) (sF_116 hS)) (by decide) (Nat.le_of_ble_eq_true rfl) (by decide) (by decide) dX12_fairOn_15 rfl (fun y_8 D_9 h => ?_)
    refine aw_istore_n (n := 19) (i := 3) (al' := [some (.ref 88), some (.int v1), some (.int v2), some (.int y_8)]) dX12_fairOn_18 rfl rfl rfl (by decide) rfl ?_
    refine aw_aload_n (n := 20) (i := 0) dX12_fairOn_19 rfl rfl rfl ?_
    refine aw_getI (n := 23) (j := 46) hG.1 fl_RX12_397 (sF_88 hS) rfl dX12_fairOn_20 rfl ?_
    refine aw_iconst (n := 24) (v := (-1)) dX12_fairOn_23 rfl (by decide) ?_
    refine aw_icmp_eq (n := 27) (tgt := 36) dX12_fairOn_24 rfl (by decide) (fun c => ?_) (fun c => ?_)
    · replace h := Ok.ift h c
      exact aw_le' (hJ_36 y_8 D_9 h) ⟨rfl, ⟨rfl, trivial⟩⟩
    · replace h := Ok.iff h c
      refine aw_iload_n (n := 28) (i := 3) dX12_fairOn_27 rfl rfl rfl ?_
      refine aw_aload_n (n := 29) (i := 0) dX12_fairOn_28 rfl rfl rfl ?_
      refine aw_getI (n := 32) (j := 46) hG.1 fl_RX12_397 (sF_88 hS) rfl dX12_fairOn_29 rfl ?_
      refine aw_icmp_lt (n := 35) (tgt := 36) dX12_fairOn_32 rfl (by decide) (fun c => ?_) (fun c => ?_)
      · replace h := Ok.ift h c
        exact aw_le' (hJ_36 y_8 D_9 h) ⟨rfl, ⟨rfl, trivial⟩⟩
      · replace h := Ok.iff h c
        exact aw_vret rfl (by decide) (by decide) dX12_fairOn_35 ⟨rfl, rfl, (Ok.dn h :)⟩
set_option maxRecDepth 100000 in
set_option maxHeartbeats 800000 in
theorem c_X12_fairOn_L7 {G : aG} (hG : gOK G) {shp : List aSh} (hS : aShp shp) {fr : Option Nat} {v1 : Int32} {v2 : Int32} {D : aD} {K : aD → Prop} (h : Ok (N_X12_fairOn 7 v1 v2 D) K) : AC G (aRm 12 0 0) M_X12_fairOn [.ref 88, .int v1, .int v2] fr shp D (aQv shp K) := by
  replace h : Ok (F_X12_fairOn (N_X12_fairOn 6) v1 v2 D) K := h
  unfold F_X12_fairOn at h
  refine AC.of (al := [some (.ref 88), some (.int v1), some (.int v2), none]) (r := 1) (by decide) (Nat.le_of_ble_eq_true rfl) rfl ?_
  have hJ_36 : ∀ (v3 : Int32) (D : aD), Ok (J_X12_fairOn_36 (N_X12_fairOn 6) v3 D) K → AW G (aRm 12 0 0) M_X12_fairOn fr 0 0 36 [some (.ref 88), none, none, some (.int v3)] [] shp D (aQv shp K) := by
    intro v3 D h
    unfold J_X12_fairOn_36 at h
    refine aw_aload_n (n := 37) (i := 0) dX12_fairOn_36 rfl rfl rfl ?_
    refine aw_iload_n (n := 38) (i := 3) dX12_fairOn_37 rfl rfl rfl ?_
    obtain ⟨D_10, e_D_10, h⟩ := Ok.let_ h
    refine aw_putI (n := 41) (j := 46) hG.1 fl_RX12_397 (sF_88 hS) rfl e_D_10 dX12_fairOn_38 rfl ?_
    refine aw_aload_n (n := 42) (i := 0) dX12_fairOn_41 rfl rfl rfl ?_
    refine aw_getR (n := 45) (j := 45) (r := 117) hG.1 fl_RX12_112 (sF_88 hS) rfl dX12_fairOn_42 rfl ?_
    refine aw_aload_n (n := 46) (i := 0) dX12_fairOn_45 rfl rfl rfl ?_
    refine aw_getR (n := 49) (j := 44) (r := 116) hG.1 fl_RX12_109 (sF_88 hS) rfl dX12_fairOn_46 rfl ?_
    refine aw_cSv (M := M_X12_fairOn) (n := 52) (As := [.ref 117, .ref 116]) (rest := []) lk_RX12_383 rfl rfl (c_X12_be hG hS (h := Ok.bind h) (sF_117 hS) (sF_116 hS)) (by decide) (Nat.le_of_ble_eq_true rfl) (by decide) (by decide) dX12_fairOn_49 rfl (fun D_11 h => ?_)
    exact aw_vret rfl (by decide) (by decide) dX12_fairOn_52 ⟨rfl, rfl, (Ok.dn h :)⟩
  have hJ_102 : ∀ (D : aD), Ok (J_X12_fairOn_102 (N_X12_fairOn 6) D) K → AW G (aRm 12 0 0) M_X12_fairOn fr 0 0 102 [none, none, none, none] [] shp D (aQv shp K) := by
    intro D h
    unfold J_X12_fairOn_102 at h
    exact aw_vret rfl (by decide) (by decide) dX12_fairOn_102 ⟨rfl, rfl, (Ok.dn h :)⟩
  have hJ_55 : ∀ (v1 : Int32) (v2 : Int32) (v3 : Int32) (D : aD), Ok (J_X12_fairOn_55 (N_X12_fairOn 6) v1 v2 v3 D) K → AW G (aRm 12 0 0) M_X12_fairOn fr 0 0 55 [some (.ref 88), some (.int v1), some (.int v2), some (.int v3)] [] shp D (aQv shp K) := by
    intro v1 v2 v3 D h
    unfold J_X12_fairOn_55 at h
    refine Ok.lp (P := fun s => AW G (aRm 12 0 0) M_X12_fairOn fr 0 0 55 [some (.ref 88), some (.int v1), some (.int v2), some (.int (s.1))] [] shp s.2 (aQv shp K)) (fun s Kb55 hL55 hR55 h => ?_) (v3, D) (Ok.bind h)
    obtain ⟨v3, D⟩ := s
    replace h : Ok (B_X12_fairOn_55 (N_X12_fairOn 6) v1 v2 v3 D) Kb55 := h
    unfold B_X12_fairOn_55 at h
    refine aw_iload_n (n := 56) (i := 3) dX12_fairOn_55 rfl rfl rfl ?_
    refine aw_aload_n (n := 57) (i := 0) dX12_fairOn_56 rfl rfl rfl ?_
    refine aw_getR (n := 60) (j := 3) (r := 91) hG.1 fl_RX12_27 (sF_88 hS) rfl dX12_fairOn_57 rfl ?_
    refine aw_iconst (n := 61) (v := 5) dX12_fairOn_60 rfl (by decide) ?_
    obtain ⟨g_2, h⟩ := Ok.gd h
    refine aw_iaload (n := 62) hG.1 (sF_91 hS) (aIn_in g_2) dX12_fairOn_61 rfl ?_
    refine aw_icmp_ge (n := 65) (tgt := 102) dX12_fairOn_62 rfl (by decide) (fun c => ?_) (fun c => ?_)
    · replace h := Ok.ift h c
      exact aw_le' (hJ_102 D (hR55 D (Ok.dn h :))) trivial
    · replace h := Ok.iff h c
      refine aw_iload_n (n := 66) (i := 2) dX12_fairOn_65 rfl rfl rfl ?_
      refine aw_iload_n (n := 67) (i := 3) dX12_fairOn_66 rfl rfl rfl ?_
      refine aw_ishr (n := 68) dX12_fairOn_67 rfl ?_
      refine aw_iconst (n := 69) (v := 1) dX12_fairOn_68 rfl (by decide) ?_
      refine aw_iand (n := 70) dX12_fairOn_69 rfl ?_
      refine aw_iconst (n := 71) (v := 1) dX12_fairOn_70 rfl (by decide) ?_
      refine aw_icmp_ne (n := 74) (tgt := 77) dX12_fairOn_71 rfl (by decide) (fun c => ?_) (fun c => ?_)
      · replace h := Ok.ift h c
        refine aw_aload_n (n := 78) (i := 0) dX12_fairOn_77 rfl rfl rfl ?_
        refine aw_getR (n := 81) (j := 44) (r := 116) hG.1 fl_RX12_109 (sF_88 hS) rfl dX12_fairOn_78 rfl ?_
        refine aw_iload_n (n := 82) (i := 1) dX12_fairOn_81 rfl rfl rfl ?_
        refine aw_iload_n (n := 83) (i := 3) dX12_fairOn_82 rfl rfl rfl ?_
        obtain ⟨g_3, h⟩ := Ok.gd h
        obtain ⟨D_4, e_D_4, h⟩ := Ok.let_ h
        refine aw_iastore (n := 84) hG.1 (sF_116 hS) (aIn_in g_3) e_D_4 dX12_fairOn_83 rfl ?_
        refine aw_aload_n (n := 85) (i := 0) dX12_fairOn_84 rfl rfl rfl ?_
        refine aw_iload_n (n := 86) (i := 1) dX12_fairOn_85 rfl rfl rfl ?_
        refine aw_iconst (n := 87) (v := 1) dX12_fairOn_86 rfl (by decide) ?_
        refine aw_iadd (n := 88) dX12_fairOn_87 rfl ?_
        refine aw_iload_n (n := 89) (i := 2) dX12_fairOn_88 rfl rfl rfl ?_
        refine aw_iconst (n := 90) (v := 1) dX12_fairOn_89 rfl (by decide) ?_
        refine aw_iload_n (n := 91) (i := 3) dX12_fairOn_90 rfl rfl rfl ?_
        refine aw_ishl (n := 92) dX12_fairOn_91 rfl ?_
        refine aw_ior (n := 93) dX12_fairOn_92 rfl ?_
        refine aw_cVv (M := M_X12_fairOn) (n := 96) (As := [.int (v1 + 1), .int (v2 ||| ((1 : Int32) <<< (v3 &&& 31)))]) (rest := []) hG.1 lk_RX12_400 rfl rfl (sF_88 hS) (c_X12_fairOn_L6 hG hS (h := Ok.bind h)) (by decide) (Nat.le_of_ble_eq_true rfl) (by decide) (by decide) dX12_fairOn_93 rfl (fun D_5 h => ?_)
        obtain ⟨v3_6, e_v3_6, h⟩ := Ok.let_ h
        refine aw_iinc (n := 99) (al' := [some (.ref 88), some (.int v1), some (.int v2), some (.int v3_6)]) dX12_fairOn_96 rfl rfl e_v3_6 (by decide) rfl ?_
        refine aw_goto (tgt := 55) dX12_fairOn_99 (by decide) ?_
        exact aw_le' (hL55 (v3_6, D_5) (Ok.dn h :)) ⟨rfl, ⟨rfl, ⟨rfl, ⟨rfl, trivial⟩⟩⟩⟩
      · replace h := Ok.iffn h c
        refine aw_goto (tgt := 96) dX12_fairOn_74 (by decide) ?_
        obtain ⟨v3_7, e_v3_7, h⟩ := Ok.let_ h
        refine aw_iinc (n := 99) (al' := [some (.ref 88), some (.int v1), some (.int v2), some (.int v3_7)]) dX12_fairOn_96 rfl rfl e_v3_7 (by decide) rfl ?_
        refine aw_goto (tgt := 55) dX12_fairOn_99 (by decide) ?_
        exact aw_le' (hL55 (v3_7, D) (Ok.dn h :)) ⟨rfl, ⟨rfl, ⟨rfl, ⟨rfl, trivial⟩⟩⟩⟩
  refine aw_iload_n (n := 1) (i := 1) dX12_fairOn_0 rfl rfl rfl ?_
  refine aw_aload_n (n := 2) (i := 0) dX12_fairOn_1 rfl rfl rfl ?_
  refine aw_getR (n := 5) (j := 3) (r := 91) hG.1 fl_RX12_27 (sF_88 hS) rfl dX12_fairOn_2 rfl ?_
  refine aw_iconst (n := 6) (v := 5) dX12_fairOn_5 rfl (by decide) ?_
  obtain ⟨g_1, h⟩ := Ok.gd h
  refine aw_iaload (n := 7) hG.1 (sF_91 hS) (aIn_in g_1) dX12_fairOn_6 rfl ?_
  refine aw_icmp_ne (n := 10) (tgt := 53) dX12_fairOn_7 rfl (by decide) (fun c => ?_) (fun c => ?_)
  · replace h := Ok.ift h c
    refine aw_iconst (n := 54) (v := 0) dX12_fairOn_53 rfl (by decide) ?_
    refine aw_istore_n (n := 55) (i := 3) (al' := [some (.ref 88), some (.int v1), some (.int v2), some (.int 0)]) dX12_fairOn_54 rfl rfl rfl (by decide) rfl ?_
    exact aw_le' (hJ_55 v1 v2 0 D h) ⟨rfl, ⟨rfl, ⟨rfl, ⟨rfl, trivial⟩⟩⟩⟩
  · replace h := Ok.iffn h c
    refine aw_aload_n (n := 11) (i := 0) dX12_fairOn_10 rfl rfl rfl ?_
    refine aw_aload_n (n := 12) (i := 0) dX12_fairOn_11 rfl rfl rfl ?_
    refine aw_getR (n := 15) (j := 44) (r := 116) hG.1 fl_RX12_109 (sF_88 hS) rfl dX12_fairOn_12 rfl ?_
    refine aw_cVi (M := M_X12_fairOn) (n := 18) (As := [.ref 116]) (rest := []) hG.1 lk_RX12_394 rfl rfl (sF_88 hS) (c_X12_differenceBy hG hS (h := Ok.bi h) (sF_116 hS)) (by decide) (Nat.le_of_ble_eq_true rfl) (by decide) (by decide) dX12_fairOn_15 rfl (fun y_8 D_9 h => ?_)
    refine aw_istore_n (n := 19) (i := 3) (al' := [some (.ref 88), some (.int v1), some (.int v2), some (.int y_8)]) dX12_fairOn_18 rfl rfl rfl (by decide) rfl ?_
    refine aw_aload_n (n := 20) (i := 0) dX12_fairOn_19 rfl rfl rfl ?_
    refine aw_getI (n := 23) (j := 46) hG.1 fl_RX12_397 (sF_88 hS) rfl dX12_fairOn_20 rfl ?_
    refine aw_iconst (n := 24) (v := (-1)) dX12_fairOn_23 rfl (by decide) ?_
    refine aw_icmp_eq (n := 27) (tgt := 36) dX12_fairOn_24 rfl (by decide) (fun c => ?_) (fun c => ?_)
    · replace h := Ok.ift h c
      exact aw_le' (hJ_36 y_8 D_9 h) ⟨rfl, ⟨rfl, trivial⟩⟩
    · replace h := Ok.iff h c
      refine aw_iload_n (n := 28) (i := 3) dX12_fairOn_27 rfl rfl rfl ?_
      refine aw_aload_n (n := 29) (i := 0) dX12_fairOn_28 rfl rfl rfl ?_
      refine aw_getI (n := 32) (j := 46) hG.1 fl_RX12_397 (sF_88 hS) rfl dX12_fairOn_29 rfl ?_
      refine aw_icmp_lt (n := 35) (tgt := 36) dX12_fairOn_32 rfl (by decide) (fun c => ?_) (fun c => ?_)
      · replace h := Ok.ift h c
        exact aw_le' (hJ_36 y_8 D_9 h) ⟨rfl, ⟨rfl, trivial⟩⟩
      · replace h := Ok.iff h c
        exact aw_vret rfl (by decide) (by decide) dX12_fairOn_35 ⟨rfl, rfl, (Ok.dn h :)⟩
set_option maxRecDepth 100000 in
set_option maxHeartbeats 800000 in
theorem c_X12_fairOn_L8 {G : aG} (hG : gOK G) {shp : List aSh} (hS : aShp shp) {fr : Option Nat} {v1 : Int32} {v2 : Int32} {D : aD} {K : aD → Prop} (h : Ok (N_X12_fairOn 8 v1 v2 D) K) : AC G (aRm 13 0 0) M_X12_fairOn [.ref 88, .int v1, .int v2] fr shp D (aQv shp K) := by
  replace h : Ok (F_X12_fairOn (N_X12_fairOn 7) v1 v2 D) K := h
  unfold F_X12_fairOn at h
  refine AC.of (al := [some (.ref 88), some (.int v1), some (.int v2), none]) (r := 1) (by decide) (Nat.le_of_ble_eq_true rfl) rfl ?_
  have hJ_36 : ∀ (v3 : Int32) (D : aD), Ok (J_X12_fairOn_36 (N_X12_fairOn 7) v3 D) K → AW G (aRm 13 0 0) M_X12_fairOn fr 0 0 36 [some (.ref 88), none, none, some (.int v3)] [] shp D (aQv shp K) := by
    intro v3 D h
    unfold J_X12_fairOn_36 at h
    refine aw_aload_n (n := 37) (i := 0) dX12_fairOn_36 rfl rfl rfl ?_
    refine aw_iload_n (n := 38) (i := 3) dX12_fairOn_37 rfl rfl rfl ?_
    obtain ⟨D_10, e_D_10, h⟩ := Ok.let_ h
    refine aw_putI (n := 41) (j := 46) hG.1 fl_RX12_397 (sF_88 hS) rfl e_D_10 dX12_fairOn_38 rfl ?_
    refine aw_aload_n (n := 42) (i := 0) dX12_fairOn_41 rfl rfl rfl ?_
    refine aw_getR (n := 45) (j := 45) (r := 117) hG.1 fl_RX12_112 (sF_88 hS) rfl dX12_fairOn_42 rfl ?_
    refine aw_aload_n (n := 46) (i := 0) dX12_fairOn_45 rfl rfl rfl ?_
    refine aw_getR (n := 49) (j := 44) (r := 116) hG.1 fl_RX12_109 (sF_88 hS) rfl dX12_fairOn_46 rfl ?_
    refine aw_cSv (M := M_X12_fairOn) (n := 52) (As := [.ref 117, .ref 116]) (rest := []) lk_RX12_383 rfl rfl (c_X12_be hG hS (h := Ok.bind h) (sF_117 hS) (sF_116 hS)) (by decide) (Nat.le_of_ble_eq_true rfl) (by decide) (by decide) dX12_fairOn_49 rfl (fun D_11 h => ?_)
    exact aw_vret rfl (by decide) (by decide) dX12_fairOn_52 ⟨rfl, rfl, (Ok.dn h :)⟩
  have hJ_102 : ∀ (D : aD), Ok (J_X12_fairOn_102 (N_X12_fairOn 7) D) K → AW G (aRm 13 0 0) M_X12_fairOn fr 0 0 102 [none, none, none, none] [] shp D (aQv shp K) := by
    intro D h
    unfold J_X12_fairOn_102 at h
    exact aw_vret rfl (by decide) (by decide) dX12_fairOn_102 ⟨rfl, rfl, (Ok.dn h :)⟩
  have hJ_55 : ∀ (v1 : Int32) (v2 : Int32) (v3 : Int32) (D : aD), Ok (J_X12_fairOn_55 (N_X12_fairOn 7) v1 v2 v3 D) K → AW G (aRm 13 0 0) M_X12_fairOn fr 0 0 55 [some (.ref 88), some (.int v1), some (.int v2), some (.int v3)] [] shp D (aQv shp K) := by
    intro v1 v2 v3 D h
    unfold J_X12_fairOn_55 at h
    refine Ok.lp (P := fun s => AW G (aRm 13 0 0) M_X12_fairOn fr 0 0 55 [some (.ref 88), some (.int v1), some (.int v2), some (.int (s.1))] [] shp s.2 (aQv shp K)) (fun s Kb55 hL55 hR55 h => ?_) (v3, D) (Ok.bind h)
    obtain ⟨v3, D⟩ := s
    replace h : Ok (B_X12_fairOn_55 (N_X12_fairOn 7) v1 v2 v3 D) Kb55 := h
    unfold B_X12_fairOn_55 at h
    refine aw_iload_n (n := 56) (i := 3) dX12_fairOn_55 rfl rfl rfl ?_
    refine aw_aload_n (n := 57) (i := 0) dX12_fairOn_56 rfl rfl rfl ?_
    refine aw_getR (n := 60) (j := 3) (r := 91) hG.1 fl_RX12_27 (sF_88 hS) rfl dX12_fairOn_57 rfl ?_
    refine aw_iconst (n := 61) (v := 5) dX12_fairOn_60 rfl (by decide) ?_
    obtain ⟨g_2, h⟩ := Ok.gd h
    refine aw_iaload (n := 62) hG.1 (sF_91 hS) (aIn_in g_2) dX12_fairOn_61 rfl ?_
    refine aw_icmp_ge (n := 65) (tgt := 102) dX12_fairOn_62 rfl (by decide) (fun c => ?_) (fun c => ?_)
    · replace h := Ok.ift h c
      exact aw_le' (hJ_102 D (hR55 D (Ok.dn h :))) trivial
    · replace h := Ok.iff h c
      refine aw_iload_n (n := 66) (i := 2) dX12_fairOn_65 rfl rfl rfl ?_
      refine aw_iload_n (n := 67) (i := 3) dX12_fairOn_66 rfl rfl rfl ?_
      refine aw_ishr (n := 68) dX12_fairOn_67 rfl ?_
      refine aw_iconst (n := 69) (v := 1) dX12_fairOn_68 rfl (by decide) ?_
      refine aw_iand (n := 70) dX12_fairOn_69 rfl ?_
      refine aw_iconst (n := 71) (v := 1) dX12_fairOn_70 rfl (by decide) ?_
      refine aw_icmp_ne (n := 74) (tgt := 77) dX12_fairOn_71 rfl (by decide) (fun c => ?_) (fun c => ?_)
      · replace h := Ok.ift h c
        refine aw_aload_n (n := 78) (i := 0) dX12_fairOn_77 rfl rfl rfl ?_
        refine aw_getR (n := 81) (j := 44) (r := 116) hG.1 fl_RX12_109 (sF_88 hS) rfl dX12_fairOn_78 rfl ?_
        refine aw_iload_n (n := 82) (i := 1) dX12_fairOn_81 rfl rfl rfl ?_
        refine aw_iload_n (n := 83) (i := 3) dX12_fairOn_82 rfl rfl rfl ?_
        obtain ⟨g_3, h⟩ := Ok.gd h
        obtain ⟨D_4, e_D_4, h⟩ := Ok.let_ h
        refine aw_iastore (n := 84) hG.1 (sF_116 hS) (aIn_in g_3) e_D_4 dX12_fairOn_83 rfl ?_
        refine aw_aload_n (n := 85) (i := 0) dX12_fairOn_84 rfl rfl rfl ?_
        refine aw_iload_n (n := 86) (i := 1) dX12_fairOn_85 rfl rfl rfl ?_
        refine aw_iconst (n := 87) (v := 1) dX12_fairOn_86 rfl (by decide) ?_
        refine aw_iadd (n := 88) dX12_fairOn_87 rfl ?_
        refine aw_iload_n (n := 89) (i := 2) dX12_fairOn_88 rfl rfl rfl ?_
        refine aw_iconst (n := 90) (v := 1) dX12_fairOn_89 rfl (by decide) ?_
        refine aw_iload_n (n := 91) (i := 3) dX12_fairOn_90 rfl rfl rfl ?_
        refine aw_ishl (n := 92) dX12_fairOn_91 rfl ?_
        refine aw_ior (n := 93) dX12_fairOn_92 rfl ?_
        refine aw_cVv (M := M_X12_fairOn) (n := 96) (As := [.int (v1 + 1), .int (v2 ||| ((1 : Int32) <<< (v3 &&& 31)))]) (rest := []) hG.1 lk_RX12_400 rfl rfl (sF_88 hS) (c_X12_fairOn_L7 hG hS (h := Ok.bind h)) (by decide) (Nat.le_of_ble_eq_true rfl) (by decide) (by decide) dX12_fairOn_93 rfl (fun D_5 h => ?_)
        obtain ⟨v3_6, e_v3_6, h⟩ := Ok.let_ h
        refine aw_iinc (n := 99) (al' := [some (.ref 88), some (.int v1), some (.int v2), some (.int v3_6)]) dX12_fairOn_96 rfl rfl e_v3_6 (by decide) rfl ?_
        refine aw_goto (tgt := 55) dX12_fairOn_99 (by decide) ?_
        exact aw_le' (hL55 (v3_6, D_5) (Ok.dn h :)) ⟨rfl, ⟨rfl, ⟨rfl, ⟨rfl, trivial⟩⟩⟩⟩
      · replace h := Ok.iffn h c
        refine aw_goto (tgt := 96) dX12_fairOn_74 (by decide) ?_
        obtain ⟨v3_7, e_v3_7, h⟩ := Ok.let_ h
        refine aw_iinc (n := 99) (al' := [some (.ref 88), some (.int v1), some (.int v2), some (.int v3_7)]) dX12_fairOn_96 rfl rfl e_v3_7 (by decide) rfl ?_
        refine aw_goto (tgt := 55) dX12_fairOn_99 (by decide) ?_
        exact aw_le' (hL55 (v3_7, D) (Ok.dn h :)) ⟨rfl, ⟨rfl, ⟨rfl, ⟨rfl, trivial⟩⟩⟩⟩
  refine aw_iload_n (n := 1) (i := 1) dX12_fairOn_0 rfl rfl rfl ?_
  refine aw_aload_n (n := 2) (i := 0) dX12_fairOn_1 rfl rfl rfl ?_
  refine aw_getR (n := 5) (j := 3) (r := 91) hG.1 fl_RX12_27 (sF_88 hS) rfl dX12_fairOn_2 rfl ?_
  refine aw_iconst (n := 6) (v := 5) dX12_fairOn_5 rfl (by decide) ?_
  obtain ⟨g_1, h⟩ := Ok.gd h
  refine aw_iaload (n := 7) hG.1 (sF_91 hS) (aIn_in g_1) dX12_fairOn_6 rfl ?_
  refine aw_icmp_ne (n := 10) (tgt := 53) dX12_fairOn_7 rfl (by decide) (fun c => ?_) (fun c => ?_)
  · replace h := Ok.ift h c
    refine aw_iconst (n := 54) (v := 0) dX12_fairOn_53 rfl (by decide) ?_
    refine aw_istore_n (n := 55) (i := 3) (al' := [some (.ref 88), some (.int v1), some (.int v2), some (.int 0)]) dX12_fairOn_54 rfl rfl rfl (by decide) rfl ?_
    exact aw_le' (hJ_55 v1 v2 0 D h) ⟨rfl, ⟨rfl, ⟨rfl, ⟨rfl, trivial⟩⟩⟩⟩
  · replace h := Ok.iffn h c
    refine aw_aload_n (n := 11) (i := 0) dX12_fairOn_10 rfl rfl rfl ?_
    refine aw_aload_n (n := 12) (i := 0) dX12_fairOn_11 rfl rfl rfl ?_
    refine aw_getR (n := 15) (j := 44) (r := 116) hG.1 fl_RX12_109 (sF_88 hS) rfl dX12_fairOn_12 rfl ?_
    refine aw_cVi (M := M_X12_fairOn) (n := 18) (As := [.ref 116]) (rest := []) hG.1 lk_RX12_394 rfl rfl (sF_88 hS) (c_X12_differenceBy hG hS (h := Ok.bi h) (sF_116 hS)) (by decide) (Nat.le_of_ble_eq_true rfl) (by decide) (by decide) dX12_fairOn_15 rfl (fun y_8 D_9 h => ?_)
    refine aw_istore_n (n := 19) (i := 3) (al' := [some (.ref 88), some (.int v1), some (.int v2), some (.int y_8)]) dX12_fairOn_18 rfl rfl rfl (by decide) rfl ?_
    refine aw_aload_n (n := 20) (i := 0) dX12_fairOn_19 rfl rfl rfl ?_
    refine aw_getI (n := 23) (j := 46) hG.1 fl_RX12_397 (sF_88 hS) rfl dX12_fairOn_20 rfl ?_
    refine aw_iconst (n := 24) (v := (-1)) dX12_fairOn_23 rfl (by decide) ?_
    refine aw_icmp_eq (n := 27) (tgt := 36) dX12_fairOn_24 rfl (by decide) (fun c => ?_) (fun c => ?_)
    · replace h := Ok.ift h c
      exact aw_le' (hJ_36 y_8 D_9 h) ⟨rfl, ⟨rfl, trivial⟩⟩
    · replace h := Ok.iff h c
      refine aw_iload_n (n := 28) (i := 3) dX12_fairOn_27 rfl rfl rfl ?_
      refine aw_aload_n (n := 29) (i := 0) dX12_fairOn_28 rfl rfl rfl ?_
      refine aw_getI (n := 32) (j := 46) hG.1 fl_RX12_397 (sF_88 hS) rfl dX12_fairOn_29 rfl ?_
      refine aw_icmp_lt (n := 35) (tgt := 36) dX12_fairOn_32 rfl (by decide) (fun c => ?_) (fun c => ?_)
      · replace h := Ok.ift h c
        exact aw_le' (hJ_36 y_8 D_9 h) ⟨rfl, ⟨rfl, trivial⟩⟩
      · replace h := Ok.iff h c
        exact aw_vret rfl (by decide) (by decide) dX12_fairOn_35 ⟨rfl, rfl, (Ok.dn h :)⟩
set_option maxRecDepth 100000 in
set_option maxHeartbeats 800000 in
theorem c_X12_fairOn {G : aG} (hG : gOK G) {shp : List aSh} (hS : aShp shp) {fr : Option Nat} {v1 : Int32} {v2 : Int32} {D : aD} {K : aD → Prop} (h : Ok (f_X12_fairOn v1 v2 D) K) : AC G (aRm 13 0 0) M_X12_fairOn [.ref 88, .int v1, .int v2] fr shp D (aQv shp K) := c_X12_fairOn_L8 hG hS h
theorem dX12_fair_0 : decode cX12_fair 0 = .ok (.aload_n 0, 1) := by decide +kernel
theorem dX12_fair_1 : decode cX12_fair 1 = .ok (.iconst 0, 1) := by decide +kernel
theorem dX12_fair_2 : decode cX12_fair 2 = .ok (.putfield 157, 3) := by decide +kernel
theorem dX12_fair_5 : decode cX12_fair 5 = .ok (.iload_n 1, 1) := by decide +kernel
theorem dX12_fair_6 : decode cX12_fair 6 = .ok (.ifCond .lt 8, 3) := by decide +kernel
theorem dX12_fair_9 : decode cX12_fair 9 = .ok (.iload_n 1, 1) := by decide +kernel
theorem dX12_fair_10 : decode cX12_fair 10 = .ok (.iconst 1, 1) := by decide +kernel
theorem dX12_fair_11 : decode cX12_fair 11 = .ok (.if_icmp .le 9, 3) := by decide +kernel
theorem dX12_fair_14 : decode cX12_fair 14 = .ok (.aload_n 0, 1) := by decide +kernel
theorem dX12_fair_15 : decode cX12_fair 15 = .ok (.iconst 1, 1) := by decide +kernel
theorem dX12_fair_16 : decode cX12_fair 16 = .ok (.invokevirtual 290, 3) := by decide +kernel
theorem dX12_fair_19 : decode cX12_fair 19 = .ok (.ireturn, 1) := by decide +kernel
theorem dX12_fair_20 : decode cX12_fair 20 = .ok (.aload_n 0, 1) := by decide +kernel
theorem dX12_fair_21 : decode cX12_fair 21 = .ok (.getfield 27, 3) := by decide +kernel
theorem dX12_fair_24 : decode cX12_fair 24 = .ok (.iconst 5, 1) := by decide +kernel
theorem dX12_fair_25 : decode cX12_fair 25 = .ok (.iaload, 1) := by decide +kernel
theorem dX12_fair_26 : decode cX12_fair 26 = .ok (.ifCond .eq 19, 3) := by decide +kernel
theorem dX12_fair_29 : decode cX12_fair 29 = .ok (.aload_n 0, 1) := by decide +kernel
theorem dX12_fair_30 : decode cX12_fair 30 = .ok (.getfield 27, 3) := by decide +kernel
theorem dX12_fair_33 : decode cX12_fair 33 = .ok (.iconst 3, 1) := by decide +kernel
theorem dX12_fair_34 : decode cX12_fair 34 = .ok (.iaload, 1) := by decide +kernel
theorem dX12_fair_35 : decode cX12_fair 35 = .ok (.ifCond .eq 10, 3) := by decide +kernel
theorem dX12_fair_38 : decode cX12_fair 38 = .ok (.aload_n 0, 1) := by decide +kernel
theorem dX12_fair_39 : decode cX12_fair 39 = .ok (.invokevirtual 359, 3) := by decide +kernel
theorem dX12_fair_42 : decode cX12_fair 42 = .ok (.ifCond .ne 5, 3) := by decide +kernel
theorem dX12_fair_45 : decode cX12_fair 45 = .ok (.iconst (-1), 1) := by decide +kernel
theorem dX12_fair_46 : decode cX12_fair 46 = .ok (.ireturn, 1) := by decide +kernel
theorem dX12_fair_47 : decode cX12_fair 47 = .ok (.aload_n 0, 1) := by decide +kernel
theorem dX12_fair_48 : decode cX12_fair 48 = .ok (.iconst (-1), 1) := by decide +kernel
theorem dX12_fair_49 : decode cX12_fair 49 = .ok (.putfield 397, 3) := by decide +kernel
theorem dX12_fair_52 : decode cX12_fair 52 = .ok (.aload_n 0, 1) := by decide +kernel
theorem dX12_fair_53 : decode cX12_fair 53 = .ok (.iconst 0, 1) := by decide +kernel
theorem dX12_fair_54 : decode cX12_fair 54 = .ok (.iconst 0, 1) := by decide +kernel
theorem dX12_fair_55 : decode cX12_fair 55 = .ok (.invokevirtual 400, 3) := by decide +kernel
theorem dX12_fair_58 : decode cX12_fair 58 = .ok (.iload_n 1, 1) := by decide +kernel
theorem dX12_fair_59 : decode cX12_fair 59 = .ok (.ifCond .ne 14, 3) := by decide +kernel
theorem dX12_fair_62 : decode cX12_fair 62 = .ok (.aload_n 0, 1) := by decide +kernel
theorem dX12_fair_63 : decode cX12_fair 63 = .ok (.aload_n 0, 1) := by decide +kernel
theorem dX12_fair_64 : decode cX12_fair 64 = .ok (.getfield 112, 3) := by decide +kernel
theorem dX12_fair_67 : decode cX12_fair 67 = .ok (.invokevirtual 319, 3) := by decide +kernel
theorem dX12_fair_70 : decode cX12_fair 70 = .ok (.goto 7, 3) := by decide +kernel
theorem dX12_fair_73 : decode cX12_fair 73 = .ok (.aload_n 0, 1) := by decide +kernel
theorem dX12_fair_74 : decode cX12_fair 74 = .ok (.getfield 397, 3) := by decide +kernel
theorem dX12_fair_77 : decode cX12_fair 77 = .ok (.ireturn, 1) := by decide +kernel
def f_X12_fair (v1 : Int32) (D : aD) : Option (Int32 × aD) :=
  aLet (pI D 88 2 0) (fun D_1 => if v1 < 0 then (aBi (f_X12_fail 1 D_1) (fun y_2 D_3 => some (y_2, D_3))) else (if v1 ≤ 1 then (aGd (aIn 5 32) (if gI D_1 91 (5 : Int32).toNatClampNeg = 0 then (some ((-1), D_1)) else (aGd (aIn 3 32) (if gI D_1 91 (3 : Int32).toNatClampNeg = 0 then (some ((-1), D_1)) else (aBi (f_X12_allWeights D_1) (fun y_6 D_7 => if y_6 ≠ 0 then (aLet (pI D_7 88 46 (-1)) (fun D_8 => (f_X12_fairOn 0 0 D_8).bind (fun D_9 => if v1 ≠ 0 then (some (gI D_9 88 46, D_9)) else (aBi (f_X12_numberOf 117 5 D_9) (fun y_10 D_11 => some (y_10, D_11)))))) else (some ((-1), D_7)))))))) else (aBi (f_X12_fail 1 D_1) (fun y_12 D_13 => some (y_12, D_13)))))
set_option maxRecDepth 100000 in
set_option maxHeartbeats 800000 in
theorem c_X12_fair {G : aG} (hG : gOK G) {shp : List aSh} (hS : aShp shp) {fr : Option Nat} {v1 : Int32} {D : aD} {K : Int32 → aD → Prop} (h : Ok2 (f_X12_fair v1 D) K) : AC G (aRm 14 0 0) M_X12_fair [.ref 88, .int v1] fr shp D (aQi shp K) := by
  replace h := Ok2.ok h
  unfold f_X12_fair at h
  refine AC.of (al := [some (.ref 88), some (.int v1)]) (r := 0) (by decide) (Nat.le_of_ble_eq_true rfl) rfl ?_
  refine aw_aload_n (n := 1) (i := 0) dX12_fair_0 rfl rfl rfl ?_
  refine aw_iconst (n := 2) (v := 0) dX12_fair_1 rfl (by decide) ?_
  obtain ⟨D_1, e_D_1, h⟩ := Ok.let_ h
  refine aw_putI (n := 5) (j := 2) hG.1 fl_RX12_157 (sF_88 hS) rfl e_D_1 dX12_fair_2 rfl ?_
  refine aw_iload_n (n := 6) (i := 1) dX12_fair_5 rfl rfl rfl ?_
  refine aw_if_lt (n := 9) (tgt := 14) dX12_fair_6 rfl (by decide) (fun c => ?_) (fun c => ?_)
  · replace h := Ok.ift h c
    refine aw_aload_n (n := 15) (i := 0) dX12_fair_14 rfl rfl rfl ?_
    refine aw_iconst (n := 16) (v := 1) dX12_fair_15 rfl (by decide) ?_
    refine aw_cVi (M := M_X12_fair) (n := 19) (As := [.int 1]) (rest := []) hG.1 lk_RX12_290 rfl rfl (sF_88 hS) (c_X12_fail hG hS (h := Ok.bi h)) (by decide) (Nat.le_of_ble_eq_true rfl) (by decide) (by decide) dX12_fair_16 rfl (fun y_2 D_3 h => ?_)
    exact aw_iret rfl (by decide) (by decide) dX12_fair_19 ⟨_, rfl, rfl, (Ok.dn h :)⟩
  · replace h := Ok.iff h c
    refine aw_iload_n (n := 10) (i := 1) dX12_fair_9 rfl rfl rfl ?_
    refine aw_iconst (n := 11) (v := 1) dX12_fair_10 rfl (by decide) ?_
    refine aw_icmp_le (n := 14) (tgt := 20) dX12_fair_11 rfl (by decide) (fun c => ?_) (fun c => ?_)
    · replace h := Ok.ift h c
      refine aw_aload_n (n := 21) (i := 0) dX12_fair_20 rfl rfl rfl ?_
      refine aw_getR (n := 24) (j := 3) (r := 91) hG.1 fl_RX12_27 (sF_88 hS) rfl dX12_fair_21 rfl ?_
      refine aw_iconst (n := 25) (v := 5) dX12_fair_24 rfl (by decide) ?_
      obtain ⟨g_4, h⟩ := Ok.gd h
      refine aw_iaload (n := 26) hG.1 (sF_91 hS) (aIn_in g_4) dX12_fair_25 rfl ?_
      refine aw_if_eq (n := 29) (tgt := 45) dX12_fair_26 rfl (by decide) (fun c => ?_) (fun c => ?_)
      · replace h := Ok.ift h c
        refine aw_iconst (n := 46) (v := (-1)) dX12_fair_45 rfl (by decide) ?_
        exact aw_iret rfl (by decide) (by decide) dX12_fair_46 ⟨_, rfl, rfl, (Ok.dn h :)⟩
      · replace h := Ok.iff h c
        refine aw_aload_n (n := 30) (i := 0) dX12_fair_29 rfl rfl rfl ?_
        refine aw_getR (n := 33) (j := 3) (r := 91) hG.1 fl_RX12_27 (sF_88 hS) rfl dX12_fair_30 rfl ?_
        refine aw_iconst (n := 34) (v := 3) dX12_fair_33 rfl (by decide) ?_
        obtain ⟨g_5, h⟩ := Ok.gd h
        refine aw_iaload (n := 35) hG.1 (sF_91 hS) (aIn_in g_5) dX12_fair_34 rfl ?_
        refine aw_if_eq (n := 38) (tgt := 45) dX12_fair_35 rfl (by decide) (fun c => ?_) (fun c => ?_)
        · replace h := Ok.ift h c
          refine aw_iconst (n := 46) (v := (-1)) dX12_fair_45 rfl (by decide) ?_
          exact aw_iret rfl (by decide) (by decide) dX12_fair_46 ⟨_, rfl, rfl, (Ok.dn h :)⟩
        · replace h := Ok.iff h c
          refine aw_aload_n (n := 39) (i := 0) dX12_fair_38 rfl rfl rfl ?_
          refine aw_cVi (M := M_X12_fair) (n := 42) (As := []) (rest := []) hG.1 lk_RX12_359 rfl rfl (sF_88 hS) (c_X12_allWeights hG hS (h := Ok.bi h)) (by decide) (Nat.le_of_ble_eq_true rfl) (by decide) (by decide) dX12_fair_39 rfl (fun y_6 D_7 h => ?_)
          refine aw_if_ne (n := 45) (tgt := 47) dX12_fair_42 rfl (by decide) (fun c => ?_) (fun c => ?_)
          · replace h := Ok.ift h c
            refine aw_aload_n (n := 48) (i := 0) dX12_fair_47 rfl rfl rfl ?_
            refine aw_iconst (n := 49) (v := (-1)) dX12_fair_48 rfl (by decide) ?_
            obtain ⟨D_8, e_D_8, h⟩ := Ok.let_ h
            refine aw_putI (n := 52) (j := 46) hG.1 fl_RX12_397 (sF_88 hS) rfl e_D_8 dX12_fair_49 rfl ?_
            refine aw_aload_n (n := 53) (i := 0) dX12_fair_52 rfl rfl rfl ?_
            refine aw_iconst (n := 54) (v := 0) dX12_fair_53 rfl (by decide) ?_
            refine aw_iconst (n := 55) (v := 0) dX12_fair_54 rfl (by decide) ?_
            refine aw_cVv (M := M_X12_fair) (n := 58) (As := [.int 0, .int 0]) (rest := []) hG.1 lk_RX12_400 rfl rfl (sF_88 hS) (c_X12_fairOn hG hS (h := Ok.bind h)) (by decide) (Nat.le_of_ble_eq_true rfl) (by decide) (by decide) dX12_fair_55 rfl (fun D_9 h => ?_)
            refine aw_iload_n (n := 59) (i := 1) dX12_fair_58 rfl rfl rfl ?_
            refine aw_if_ne (n := 62) (tgt := 73) dX12_fair_59 rfl (by decide) (fun c => ?_) (fun c => ?_)
            · replace h := Ok.ift h c
              refine aw_aload_n (n := 74) (i := 0) dX12_fair_73 rfl rfl rfl ?_
              refine aw_getI (n := 77) (j := 46) hG.1 fl_RX12_397 (sF_88 hS) rfl dX12_fair_74 rfl ?_
              exact aw_iret rfl (by decide) (by decide) dX12_fair_77 ⟨_, rfl, rfl, (Ok.dn h :)⟩
            · replace h := Ok.iffn h c
              refine aw_aload_n (n := 63) (i := 0) dX12_fair_62 rfl rfl rfl ?_
              refine aw_aload_n (n := 64) (i := 0) dX12_fair_63 rfl rfl rfl ?_
              refine aw_getR (n := 67) (j := 45) (r := 117) hG.1 fl_RX12_112 (sF_88 hS) rfl dX12_fair_64 rfl ?_
              refine aw_cVi (M := M_X12_fair) (n := 70) (As := [.ref 117]) (rest := []) hG.1 lk_RX12_319 rfl rfl (sF_88 hS) (c_X12_numberOf hG hS (h := Ok.bi h) (sF_117 hS)) (by decide) (Nat.le_of_ble_eq_true rfl) (by decide) (by decide) dX12_fair_67 rfl (fun y_10 D_11 h => ?_)
              refine aw_goto (tgt := 77) dX12_fair_70 (by decide) ?_
              exact aw_iret rfl (by decide) (by decide) dX12_fair_77 ⟨_, rfl, rfl, (Ok.dn h :)⟩
          · replace h := Ok.iffn h c
            refine aw_iconst (n := 46) (v := (-1)) dX12_fair_45 rfl (by decide) ?_
            exact aw_iret rfl (by decide) (by decide) dX12_fair_46 ⟨_, rfl, rfl, (Ok.dn h :)⟩
    · replace h := Ok.iff h c
      refine aw_aload_n (n := 15) (i := 0) dX12_fair_14 rfl rfl rfl ?_
      refine aw_iconst (n := 16) (v := 1) dX12_fair_15 rfl (by decide) ?_
      refine aw_cVi (M := M_X12_fair) (n := 19) (As := [.int 1]) (rest := []) hG.1 lk_RX12_290 rfl rfl (sF_88 hS) (c_X12_fail hG hS (h := Ok.bi h)) (by decide) (Nat.le_of_ble_eq_true rfl) (by decide) (by decide) dX12_fair_16 rfl (fun y_12 D_13 h => ?_)
      exact aw_iret rfl (by decide) (by decide) dX12_fair_19 ⟨_, rfl, rfl, (Ok.dn h :)⟩
theorem dX12_nose_0 : decode cX12_nose 0 = .ok (.aload_n 0, 1) := by decide +kernel
theorem dX12_nose_1 : decode cX12_nose 1 = .ok (.iconst 0, 1) := by decide +kernel
theorem dX12_nose_2 : decode cX12_nose 2 = .ok (.putfield 157, 3) := by decide +kernel
theorem dX12_nose_5 : decode cX12_nose 5 = .ok (.iload_n 1, 1) := by decide +kernel
theorem dX12_nose_6 : decode cX12_nose 6 = .ok (.iconst 0, 1) := by decide +kernel
theorem dX12_nose_7 : decode cX12_nose 7 = .ok (.aload_n 0, 1) := by decide +kernel
theorem dX12_nose_8 : decode cX12_nose 8 = .ok (.getfield 27, 3) := by decide +kernel
theorem dX12_nose_11 : decode cX12_nose 11 = .ok (.iconst 5, 1) := by decide +kernel
theorem dX12_nose_12 : decode cX12_nose 12 = .ok (.iaload, 1) := by decide +kernel
theorem dX12_nose_13 : decode cX12_nose 13 = .ok (.iconst 1, 1) := by decide +kernel
theorem dX12_nose_14 : decode cX12_nose 14 = .ok (.isub, 1) := by decide +kernel
theorem dX12_nose_15 : decode cX12_nose 15 = .ok (.invokestatic 160, 3) := by decide +kernel
theorem dX12_nose_18 : decode cX12_nose 18 = .ok (.ifCond .eq 21, 3) := by decide +kernel
theorem dX12_nose_21 : decode cX12_nose 21 = .ok (.iload_n 2, 1) := by decide +kernel
theorem dX12_nose_22 : decode cX12_nose 22 = .ok (.iconst 0, 1) := by decide +kernel
theorem dX12_nose_23 : decode cX12_nose 23 = .ok (.bipush 23, 2) := by decide +kernel
theorem dX12_nose_25 : decode cX12_nose 25 = .ok (.invokestatic 160, 3) := by decide +kernel
theorem dX12_nose_28 : decode cX12_nose 28 = .ok (.ifCond .eq 11, 3) := by decide +kernel
theorem dX12_nose_31 : decode cX12_nose 31 = .ok (.aload_n 0, 1) := by decide +kernel
theorem dX12_nose_32 : decode cX12_nose 32 = .ok (.iload_n 3, 1) := by decide +kernel
theorem dX12_nose_33 : decode cX12_nose 33 = .ok (.invokevirtual 336, 3) := by decide +kernel
theorem dX12_nose_36 : decode cX12_nose 36 = .ok (.ifCond .ne 9, 3) := by decide +kernel
theorem dX12_nose_39 : decode cX12_nose 39 = .ok (.aload_n 0, 1) := by decide +kernel
theorem dX12_nose_40 : decode cX12_nose 40 = .ok (.iconst 1, 1) := by decide +kernel
theorem dX12_nose_41 : decode cX12_nose 41 = .ok (.invokevirtual 290, 3) := by decide +kernel
theorem dX12_nose_44 : decode cX12_nose 44 = .ok (.ireturn, 1) := by decide +kernel
theorem dX12_nose_45 : decode cX12_nose 45 = .ok (.aload_n 0, 1) := by decide +kernel
theorem dX12_nose_46 : decode cX12_nose 46 = .ok (.getfield 309, 3) := by decide +kernel
theorem dX12_nose_49 : decode cX12_nose 49 = .ok (.bipush 12, 2) := by decide +kernel
theorem dX12_nose_51 : decode cX12_nose 51 = .ok (.if_icmp .eq 15, 3) := by decide +kernel
theorem dX12_nose_54 : decode cX12_nose 54 = .ok (.iload 4, 2) := by decide +kernel
theorem dX12_nose_56 : decode cX12_nose 56 = .ok (.iconst 0, 1) := by decide +kernel
theorem dX12_nose_57 : decode cX12_nose 57 = .ok (.sipush 9999, 3) := by decide +kernel
theorem dX12_nose_60 : decode cX12_nose 60 = .ok (.invokestatic 160, 3) := by decide +kernel
theorem dX12_nose_63 : decode cX12_nose 63 = .ok (.ifCond .ne 15, 3) := by decide +kernel
theorem dX12_nose_66 : decode cX12_nose 66 = .ok (.aload_n 0, 1) := by decide +kernel
theorem dX12_nose_67 : decode cX12_nose 67 = .ok (.getfield 66, 3) := by decide +kernel
theorem dX12_nose_70 : decode cX12_nose 70 = .ok (.iconst 2, 1) := by decide +kernel
theorem dX12_nose_71 : decode cX12_nose 71 = .ok (.dup2, 1) := by decide +kernel
theorem dX12_nose_72 : decode cX12_nose 72 = .ok (.iaload, 1) := by decide +kernel
theorem dX12_nose_73 : decode cX12_nose 73 = .ok (.iconst 1, 1) := by decide +kernel
theorem dX12_nose_74 : decode cX12_nose 74 = .ok (.iadd, 1) := by decide +kernel
theorem dX12_nose_75 : decode cX12_nose 75 = .ok (.iastore, 1) := by decide +kernel
theorem dX12_nose_76 : decode cX12_nose 76 = .ok (.iconst (-1), 1) := by decide +kernel
theorem dX12_nose_77 : decode cX12_nose 77 = .ok (.ireturn, 1) := by decide +kernel
theorem dX12_nose_78 : decode cX12_nose 78 = .ok (.aload_n 0, 1) := by decide +kernel
theorem dX12_nose_79 : decode cX12_nose 79 = .ok (.getfield 115, 3) := by decide +kernel
theorem dX12_nose_82 : decode cX12_nose 82 = .ok (.aload_n 0, 1) := by decide +kernel
theorem dX12_nose_83 : decode cX12_nose 83 = .ok (.getfield 309, 3) := by decide +kernel
theorem dX12_nose_86 : decode cX12_nose 86 = .ok (.iload_n 1, 1) := by decide +kernel
theorem dX12_nose_87 : decode cX12_nose 87 = .ok (.iastore, 1) := by decide +kernel
theorem dX12_nose_88 : decode cX12_nose 88 = .ok (.aload_n 0, 1) := by decide +kernel
theorem dX12_nose_89 : decode cX12_nose 89 = .ok (.getfield 118, 3) := by decide +kernel
theorem dX12_nose_92 : decode cX12_nose 92 = .ok (.aload_n 0, 1) := by decide +kernel
theorem dX12_nose_93 : decode cX12_nose 93 = .ok (.getfield 309, 3) := by decide +kernel
theorem dX12_nose_96 : decode cX12_nose 96 = .ok (.iload_n 2, 1) := by decide +kernel
theorem dX12_nose_97 : decode cX12_nose 97 = .ok (.iastore, 1) := by decide +kernel
theorem dX12_nose_98 : decode cX12_nose 98 = .ok (.aload_n 0, 1) := by decide +kernel
theorem dX12_nose_99 : decode cX12_nose 99 = .ok (.getfield 121, 3) := by decide +kernel
theorem dX12_nose_102 : decode cX12_nose 102 = .ok (.aload_n 0, 1) := by decide +kernel
theorem dX12_nose_103 : decode cX12_nose 103 = .ok (.getfield 309, 3) := by decide +kernel
theorem dX12_nose_106 : decode cX12_nose 106 = .ok (.iload_n 3, 1) := by decide +kernel
theorem dX12_nose_107 : decode cX12_nose 107 = .ok (.iastore, 1) := by decide +kernel
theorem dX12_nose_108 : decode cX12_nose 108 = .ok (.aload_n 0, 1) := by decide +kernel
theorem dX12_nose_109 : decode cX12_nose 109 = .ok (.getfield 124, 3) := by decide +kernel
theorem dX12_nose_112 : decode cX12_nose 112 = .ok (.aload_n 0, 1) := by decide +kernel
theorem dX12_nose_113 : decode cX12_nose 113 = .ok (.getfield 309, 3) := by decide +kernel
theorem dX12_nose_116 : decode cX12_nose 116 = .ok (.iload 4, 2) := by decide +kernel
theorem dX12_nose_118 : decode cX12_nose 118 = .ok (.iastore, 1) := by decide +kernel
theorem dX12_nose_119 : decode cX12_nose 119 = .ok (.aload_n 0, 1) := by decide +kernel
theorem dX12_nose_120 : decode cX12_nose 120 = .ok (.dup, 1) := by decide +kernel
theorem dX12_nose_121 : decode cX12_nose 121 = .ok (.getfield 309, 3) := by decide +kernel
theorem dX12_nose_124 : decode cX12_nose 124 = .ok (.iconst 1, 1) := by decide +kernel
theorem dX12_nose_125 : decode cX12_nose 125 = .ok (.iadd, 1) := by decide +kernel
theorem dX12_nose_126 : decode cX12_nose 126 = .ok (.putfield 309, 3) := by decide +kernel
theorem dX12_nose_129 : decode cX12_nose 129 = .ok (.aload_n 0, 1) := by decide +kernel
theorem dX12_nose_130 : decode cX12_nose 130 = .ok (.getfield 309, 3) := by decide +kernel
theorem dX12_nose_133 : decode cX12_nose 133 = .ok (.ireturn, 1) := by decide +kernel
def J_X12_nose_66 (D : aD) : Option (Int32 × aD) :=
  aGd (aIn 2 3) (aGd (aIn 2 3) (aLet (pI D 104 (2 : Int32).toNatClampNeg ((gI D 104 (2 : Int32).toNatClampNeg) + 1)) (fun D_15 => some ((-1), D_15))))
def f_X12_nose (v1 : Int32) (v2 : Int32) (v3 : Int32) (v4 : Int32) (D : aD) : Option (Int32 × aD) :=
  aLet (pI D 88 2 0) (fun D_1 => aGd (aIn 5 32) (aBi (f_X12_isIn v1 0 ((gI D_1 91 (5 : Int32).toNatClampNeg) - 1) D_1) (fun y_3 D_4 => if y_3 = 0 then (aBi (f_X12_fail 1 D_4) (fun y_5 D_6 => some (y_5, D_6))) else (aBi (f_X12_isIn v2 0 23 D_4) (fun y_7 D_8 => if y_7 = 0 then (aBi (f_X12_fail 1 D_8) (fun y_9 D_10 => some (y_9, D_10))) else (aBi (f_X12_isSort v3 D_8) (fun y_11 D_12 => if y_11 ≠ 0 then (if gI D_12 88 33 = 12 then (J_X12_nose_66 D_12) else (aBi (f_X12_isIn v4 0 9999 D_12) (fun y_16 D_17 => if y_16 ≠ 0 then (aGd (aIn (gI D_17 88 33) 12) (aLet (pI D_17 118 (gI D_17 88 33).toNatClampNeg v1) (fun D_19 => aGd (aIn (gI D_19 88 33) 12) (aLet (pI D_19 119 (gI D_19 88 33).toNatClampNeg v2) (fun D_21 => aGd (aIn (gI D_21 88 33) 12) (aLet (pI D_21 120 (gI D_21 88 33).toNatClampNeg v3) (fun D_23 => aGd (aIn (gI D_23 88 33) 12) (aLet (pI D_23 121 (gI D_23 88 33).toNatClampNeg v4) (fun D_25 => aLet (pI D_25 88 33 ((gI D_25 88 33) + 1)) (fun D_26 => some (gI D_26 88 33, D_26))))))))))) else (J_X12_nose_66 D_17)))) else (aBi (f_X12_fail 1 D_12) (fun y_27 D_28 => some (y_27, D_28))))))))))
set_option maxRecDepth 100000 in
set_option maxHeartbeats 800000 in
theorem c_X12_nose {G : aG} (hG : gOK G) {shp : List aSh} (hS : aShp shp) {fr : Option Nat} {v1 : Int32} {v2 : Int32} {v3 : Int32} {v4 : Int32} {D : aD} {K : Int32 → aD → Prop} (h : Ok2 (f_X12_nose v1 v2 v3 v4 D) K) : AC G (aRm 3 0 0) M_X12_nose [.ref 88, .int v1, .int v2, .int v3, .int v4] fr shp D (aQi shp K) := by
  replace h := Ok2.ok h
  unfold f_X12_nose at h
  refine AC.of (al := [some (.ref 88), some (.int v1), some (.int v2), some (.int v3), some (.int v4)]) (r := 0) (by decide) (Nat.le_of_ble_eq_true rfl) rfl ?_
  have hJ_66 : ∀ (D : aD), Ok (J_X12_nose_66 D) (fun r => K r.1 r.2) → AW G (aRm 3 0 0) M_X12_nose fr 0 0 66 [some (.ref 88), none, none, none, none] [] shp D (aQi shp K) := by
    intro D h
    unfold J_X12_nose_66 at h
    refine aw_aload_n (n := 67) (i := 0) dX12_nose_66 rfl rfl rfl ?_
    refine aw_getR (n := 70) (j := 16) (r := 104) hG.1 fl_RX12_66 (sF_88 hS) rfl dX12_nose_67 rfl ?_
    refine aw_iconst (n := 71) (v := 2) dX12_nose_70 rfl (by decide) ?_
    refine aw_dup2 (n := 72) dX12_nose_71 rfl rfl rfl ?_
    obtain ⟨g_13, h⟩ := Ok.gd h
    refine aw_iaload (n := 73) hG.1 (sF_104 hS) (aIn_in g_13) dX12_nose_72 rfl ?_
    refine aw_iconst (n := 74) (v := 1) dX12_nose_73 rfl (by decide) ?_
    refine aw_iadd (n := 75) dX12_nose_74 rfl ?_
    obtain ⟨g_14, h⟩ := Ok.gd h
    obtain ⟨D_15, e_D_15, h⟩ := Ok.let_ h
    refine aw_iastore (n := 76) hG.1 (sF_104 hS) (aIn_in g_14) e_D_15 dX12_nose_75 rfl ?_
    refine aw_iconst (n := 77) (v := (-1)) dX12_nose_76 rfl (by decide) ?_
    exact aw_iret rfl (by decide) (by decide) dX12_nose_77 ⟨_, rfl, rfl, (Ok.dn h :)⟩
  refine aw_aload_n (n := 1) (i := 0) dX12_nose_0 rfl rfl rfl ?_
  refine aw_iconst (n := 2) (v := 0) dX12_nose_1 rfl (by decide) ?_
  obtain ⟨D_1, e_D_1, h⟩ := Ok.let_ h
  refine aw_putI (n := 5) (j := 2) hG.1 fl_RX12_157 (sF_88 hS) rfl e_D_1 dX12_nose_2 rfl ?_
  refine aw_iload_n (n := 6) (i := 1) dX12_nose_5 rfl rfl rfl ?_
  refine aw_iconst (n := 7) (v := 0) dX12_nose_6 rfl (by decide) ?_
  refine aw_aload_n (n := 8) (i := 0) dX12_nose_7 rfl rfl rfl ?_
  refine aw_getR (n := 11) (j := 3) (r := 91) hG.1 fl_RX12_27 (sF_88 hS) rfl dX12_nose_8 rfl ?_
  refine aw_iconst (n := 12) (v := 5) dX12_nose_11 rfl (by decide) ?_
  obtain ⟨g_2, h⟩ := Ok.gd h
  refine aw_iaload (n := 13) hG.1 (sF_91 hS) (aIn_in g_2) dX12_nose_12 rfl ?_
  refine aw_iconst (n := 14) (v := 1) dX12_nose_13 rfl (by decide) ?_
  refine aw_isub (n := 15) dX12_nose_14 rfl ?_
  refine aw_cSi (M := M_X12_nose) (n := 18) (As := [.int v1, .int 0, .int ((gI D_1 91 (5 : Int32).toNatClampNeg) - 1)]) (rest := []) lk_RX12_160 rfl rfl (c_X12_isIn hG hS (h := Ok.bi h)) (by decide) (Nat.le_of_ble_eq_true rfl) (by decide) (by decide) dX12_nose_15 rfl (fun y_3 D_4 h => ?_)
  refine aw_if_eq (n := 21) (tgt := 39) dX12_nose_18 rfl (by decide) (fun c => ?_) (fun c => ?_)
  · replace h := Ok.ift h c
    refine aw_aload_n (n := 40) (i := 0) dX12_nose_39 rfl rfl rfl ?_
    refine aw_iconst (n := 41) (v := 1) dX12_nose_40 rfl (by decide) ?_
    refine aw_cVi (M := M_X12_nose) (n := 44) (As := [.int 1]) (rest := []) hG.1 lk_RX12_290 rfl rfl (sF_88 hS) (c_X12_fail hG hS (h := Ok.bi h)) (by decide) (Nat.le_of_ble_eq_true rfl) (by decide) (by decide) dX12_nose_41 rfl (fun y_5 D_6 h => ?_)
    exact aw_iret rfl (by decide) (by decide) dX12_nose_44 ⟨_, rfl, rfl, (Ok.dn h :)⟩
  · replace h := Ok.iff h c
    refine aw_iload_n (n := 22) (i := 2) dX12_nose_21 rfl rfl rfl ?_
    refine aw_iconst (n := 23) (v := 0) dX12_nose_22 rfl (by decide) ?_
    refine aw_bipush (n := 25) (v := 23) dX12_nose_23 rfl (by decide) ?_
    refine aw_cSi (M := M_X12_nose) (n := 28) (As := [.int v2, .int 0, .int 23]) (rest := []) lk_RX12_160 rfl rfl (c_X12_isIn hG hS (h := Ok.bi h)) (by decide) (Nat.le_of_ble_eq_true rfl) (by decide) (by decide) dX12_nose_25 rfl (fun y_7 D_8 h => ?_)
    refine aw_if_eq (n := 31) (tgt := 39) dX12_nose_28 rfl (by decide) (fun c => ?_) (fun c => ?_)
    · replace h := Ok.ift h c
      refine aw_aload_n (n := 40) (i := 0) dX12_nose_39 rfl rfl rfl ?_
      refine aw_iconst (n := 41) (v := 1) dX12_nose_40 rfl (by decide) ?_
      refine aw_cVi (M := M_X12_nose) (n := 44) (As := [.int 1]) (rest := []) hG.1 lk_RX12_290 rfl rfl (sF_88 hS) (c_X12_fail hG hS (h := Ok.bi h)) (by decide) (Nat.le_of_ble_eq_true rfl) (by decide) (by decide) dX12_nose_41 rfl (fun y_9 D_10 h => ?_)
      exact aw_iret rfl (by decide) (by decide) dX12_nose_44 ⟨_, rfl, rfl, (Ok.dn h :)⟩
    · replace h := Ok.iff h c
      refine aw_aload_n (n := 32) (i := 0) dX12_nose_31 rfl rfl rfl ?_
      refine aw_iload_n (n := 33) (i := 3) dX12_nose_32 rfl rfl rfl ?_
      refine aw_cVi (M := M_X12_nose) (n := 36) (As := [.int v3]) (rest := []) hG.1 lk_RX12_336 rfl rfl (sF_88 hS) (c_X12_isSort hG hS (h := Ok.bi h)) (by decide) (Nat.le_of_ble_eq_true rfl) (by decide) (by decide) dX12_nose_33 rfl (fun y_11 D_12 h => ?_)
      refine aw_if_ne (n := 39) (tgt := 45) dX12_nose_36 rfl (by decide) (fun c => ?_) (fun c => ?_)
      · replace h := Ok.ift h c
        refine aw_aload_n (n := 46) (i := 0) dX12_nose_45 rfl rfl rfl ?_
        refine aw_getI (n := 49) (j := 33) hG.1 fl_RX12_309 (sF_88 hS) rfl dX12_nose_46 rfl ?_
        refine aw_bipush (n := 51) (v := 12) dX12_nose_49 rfl (by decide) ?_
        refine aw_icmp_eq (n := 54) (tgt := 66) dX12_nose_51 rfl (by decide) (fun c => ?_) (fun c => ?_)
        · replace h := Ok.ift h c
          exact aw_le' (hJ_66 D_12 h) ⟨rfl, trivial⟩
        · replace h := Ok.iff h c
          refine aw_iload (n := 56) (i := 4) dX12_nose_54 rfl rfl ?_
          refine aw_iconst (n := 57) (v := 0) dX12_nose_56 rfl (by decide) ?_
          refine aw_sipush (n := 60) (v := 9999) dX12_nose_57 rfl (by decide) ?_
          refine aw_cSi (M := M_X12_nose) (n := 63) (As := [.int v4, .int 0, .int 9999]) (rest := []) lk_RX12_160 rfl rfl (c_X12_isIn hG hS (h := Ok.bi h)) (by decide) (Nat.le_of_ble_eq_true rfl) (by decide) (by decide) dX12_nose_60 rfl (fun y_16 D_17 h => ?_)
          refine aw_if_ne (n := 66) (tgt := 78) dX12_nose_63 rfl (by decide) (fun c => ?_) (fun c => ?_)
          · replace h := Ok.ift h c
            refine aw_aload_n (n := 79) (i := 0) dX12_nose_78 rfl rfl rfl ?_
            refine aw_getR (n := 82) (j := 47) (r := 118) hG.1 fl_RX12_115 (sF_88 hS) rfl dX12_nose_79 rfl ?_
            refine aw_aload_n (n := 83) (i := 0) dX12_nose_82 rfl rfl rfl ?_
            refine aw_getI (n := 86) (j := 33) hG.1 fl_RX12_309 (sF_88 hS) rfl dX12_nose_83 rfl ?_
            refine aw_iload_n (n := 87) (i := 1) dX12_nose_86 rfl rfl rfl ?_
            obtain ⟨g_18, h⟩ := Ok.gd h
            obtain ⟨D_19, e_D_19, h⟩ := Ok.let_ h
            refine aw_iastore (n := 88) hG.1 (sF_118 hS) (aIn_in g_18) e_D_19 dX12_nose_87 rfl ?_
            refine aw_aload_n (n := 89) (i := 0) dX12_nose_88 rfl rfl rfl ?_
            refine aw_getR (n := 92) (j := 48) (r := 119) hG.1 fl_RX12_118 (sF_88 hS) rfl dX12_nose_89 rfl ?_
            refine aw_aload_n (n := 93) (i := 0) dX12_nose_92 rfl rfl rfl ?_
            refine aw_getI (n := 96) (j := 33) hG.1 fl_RX12_309 (sF_88 hS) rfl dX12_nose_93 rfl ?_
            refine aw_iload_n (n := 97) (i := 2) dX12_nose_96 rfl rfl rfl ?_
            obtain ⟨g_20, h⟩ := Ok.gd h
            obtain ⟨D_21, e_D_21, h⟩ := Ok.let_ h
            refine aw_iastore (n := 98) hG.1 (sF_119 hS) (aIn_in g_20) e_D_21 dX12_nose_97 rfl ?_
            refine aw_aload_n (n := 99) (i := 0) dX12_nose_98 rfl rfl rfl ?_
            refine aw_getR (n := 102) (j := 49) (r := 120) hG.1 fl_RX12_121 (sF_88 hS) rfl dX12_nose_99 rfl ?_
            refine aw_aload_n (n := 103) (i := 0) dX12_nose_102 rfl rfl rfl ?_
            refine aw_getI (n := 106) (j := 33) hG.1 fl_RX12_309 (sF_88 hS) rfl dX12_nose_103 rfl ?_
            refine aw_iload_n (n := 107) (i := 3) dX12_nose_106 rfl rfl rfl ?_
            obtain ⟨g_22, h⟩ := Ok.gd h
            obtain ⟨D_23, e_D_23, h⟩ := Ok.let_ h
            refine aw_iastore (n := 108) hG.1 (sF_120 hS) (aIn_in g_22) e_D_23 dX12_nose_107 rfl ?_
            refine aw_aload_n (n := 109) (i := 0) dX12_nose_108 rfl rfl rfl ?_
            refine aw_getR (n := 112) (j := 50) (r := 121) hG.1 fl_RX12_124 (sF_88 hS) rfl dX12_nose_109 rfl ?_
            refine aw_aload_n (n := 113) (i := 0) dX12_nose_112 rfl rfl rfl ?_
            refine aw_getI (n := 116) (j := 33) hG.1 fl_RX12_309 (sF_88 hS) rfl dX12_nose_113 rfl ?_
            refine aw_iload (n := 118) (i := 4) dX12_nose_116 rfl rfl ?_
            obtain ⟨g_24, h⟩ := Ok.gd h
            obtain ⟨D_25, e_D_25, h⟩ := Ok.let_ h
            refine aw_iastore (n := 119) hG.1 (sF_121 hS) (aIn_in g_24) e_D_25 dX12_nose_118 rfl ?_
            refine aw_aload_n (n := 120) (i := 0) dX12_nose_119 rfl rfl rfl ?_
            refine aw_dup (n := 121) dX12_nose_120 rfl rfl ?_
            refine aw_getI (n := 124) (j := 33) hG.1 fl_RX12_309 (sF_88 hS) rfl dX12_nose_121 rfl ?_
            refine aw_iconst (n := 125) (v := 1) dX12_nose_124 rfl (by decide) ?_
            refine aw_iadd (n := 126) dX12_nose_125 rfl ?_
            obtain ⟨D_26, e_D_26, h⟩ := Ok.let_ h
            refine aw_putI (n := 129) (j := 33) hG.1 fl_RX12_309 (sF_88 hS) rfl e_D_26 dX12_nose_126 rfl ?_
            refine aw_aload_n (n := 130) (i := 0) dX12_nose_129 rfl rfl rfl ?_
            refine aw_getI (n := 133) (j := 33) hG.1 fl_RX12_309 (sF_88 hS) rfl dX12_nose_130 rfl ?_
            exact aw_iret rfl (by decide) (by decide) dX12_nose_133 ⟨_, rfl, rfl, (Ok.dn h :)⟩
          · replace h := Ok.iffn h c
            exact aw_le' (hJ_66 D_17 h) ⟨rfl, trivial⟩
      · replace h := Ok.iffn h c
        refine aw_aload_n (n := 40) (i := 0) dX12_nose_39 rfl rfl rfl ?_
        refine aw_iconst (n := 41) (v := 1) dX12_nose_40 rfl (by decide) ?_
        refine aw_cVi (M := M_X12_nose) (n := 44) (As := [.int 1]) (rest := []) hG.1 lk_RX12_290 rfl rfl (sF_88 hS) (c_X12_fail hG hS (h := Ok.bi h)) (by decide) (Nat.le_of_ble_eq_true rfl) (by decide) (by decide) dX12_nose_41 rfl (fun y_27 D_28 h => ?_)
        exact aw_iret rfl (by decide) (by decide) dX12_nose_44 ⟨_, rfl, rfl, (Ok.dn h :)⟩
theorem dX12_forget_0 : decode cX12_forget 0 = .ok (.aload_n 0, 1) := by decide +kernel
theorem dX12_forget_1 : decode cX12_forget 1 = .ok (.iconst 0, 1) := by decide +kernel
theorem dX12_forget_2 : decode cX12_forget 2 = .ok (.putfield 157, 3) := by decide +kernel
theorem dX12_forget_5 : decode cX12_forget 5 = .ok (.aload_n 0, 1) := by decide +kernel
theorem dX12_forget_6 : decode cX12_forget 6 = .ok (.getfield 309, 3) := by decide +kernel
theorem dX12_forget_9 : decode cX12_forget 9 = .ok (.ifCond .ne 5, 3) := by decide +kernel
theorem dX12_forget_12 : decode cX12_forget 12 = .ok (.iconst (-1), 1) := by decide +kernel
theorem dX12_forget_13 : decode cX12_forget 13 = .ok (.ireturn, 1) := by decide +kernel
theorem dX12_forget_14 : decode cX12_forget 14 = .ok (.aload_n 0, 1) := by decide +kernel
theorem dX12_forget_15 : decode cX12_forget 15 = .ok (.dup, 1) := by decide +kernel
theorem dX12_forget_16 : decode cX12_forget 16 = .ok (.getfield 309, 3) := by decide +kernel
theorem dX12_forget_19 : decode cX12_forget 19 = .ok (.iconst 1, 1) := by decide +kernel
theorem dX12_forget_20 : decode cX12_forget 20 = .ok (.isub, 1) := by decide +kernel
theorem dX12_forget_21 : decode cX12_forget 21 = .ok (.putfield 309, 3) := by decide +kernel
theorem dX12_forget_24 : decode cX12_forget 24 = .ok (.aload_n 0, 1) := by decide +kernel
theorem dX12_forget_25 : decode cX12_forget 25 = .ok (.getfield 309, 3) := by decide +kernel
theorem dX12_forget_28 : decode cX12_forget 28 = .ok (.ireturn, 1) := by decide +kernel
def f_X12_forget (D : aD) : Option (Int32 × aD) :=
  aLet (pI D 88 2 0) (fun D_1 => if gI D_1 88 33 ≠ 0 then (aLet (pI D_1 88 33 ((gI D_1 88 33) - 1)) (fun D_2 => some (gI D_2 88 33, D_2))) else (some ((-1), D_1)))
set_option maxRecDepth 100000 in
set_option maxHeartbeats 800000 in
theorem c_X12_forget {G : aG} (hG : gOK G) {shp : List aSh} (hS : aShp shp) {fr : Option Nat} {D : aD} {K : Int32 → aD → Prop} (h : Ok2 (f_X12_forget D) K) : AC G (aRm 1 0 0) M_X12_forget [.ref 88] fr shp D (aQi shp K) := by
  replace h := Ok2.ok h
  unfold f_X12_forget at h
  refine AC.of (al := [some (.ref 88)]) (r := 0) (by decide) (Nat.le_of_ble_eq_true rfl) rfl ?_
  refine aw_aload_n (n := 1) (i := 0) dX12_forget_0 rfl rfl rfl ?_
  refine aw_iconst (n := 2) (v := 0) dX12_forget_1 rfl (by decide) ?_
  obtain ⟨D_1, e_D_1, h⟩ := Ok.let_ h
  refine aw_putI (n := 5) (j := 2) hG.1 fl_RX12_157 (sF_88 hS) rfl e_D_1 dX12_forget_2 rfl ?_
  refine aw_aload_n (n := 6) (i := 0) dX12_forget_5 rfl rfl rfl ?_
  refine aw_getI (n := 9) (j := 33) hG.1 fl_RX12_309 (sF_88 hS) rfl dX12_forget_6 rfl ?_
  refine aw_if_ne (n := 12) (tgt := 14) dX12_forget_9 rfl (by decide) (fun c => ?_) (fun c => ?_)
  · replace h := Ok.ift h c
    refine aw_aload_n (n := 15) (i := 0) dX12_forget_14 rfl rfl rfl ?_
    refine aw_dup (n := 16) dX12_forget_15 rfl rfl ?_
    refine aw_getI (n := 19) (j := 33) hG.1 fl_RX12_309 (sF_88 hS) rfl dX12_forget_16 rfl ?_
    refine aw_iconst (n := 20) (v := 1) dX12_forget_19 rfl (by decide) ?_
    refine aw_isub (n := 21) dX12_forget_20 rfl ?_
    obtain ⟨D_2, e_D_2, h⟩ := Ok.let_ h
    refine aw_putI (n := 24) (j := 33) hG.1 fl_RX12_309 (sF_88 hS) rfl e_D_2 dX12_forget_21 rfl ?_
    refine aw_aload_n (n := 25) (i := 0) dX12_forget_24 rfl rfl rfl ?_
    refine aw_getI (n := 28) (j := 33) hG.1 fl_RX12_309 (sF_88 hS) rfl dX12_forget_25 rfl ?_
    exact aw_iret rfl (by decide) (by decide) dX12_forget_28 ⟨_, rfl, rfl, (Ok.dn h :)⟩
  · replace h := Ok.iffn h c
    refine aw_iconst (n := 13) (v := (-1)) dX12_forget_12 rfl (by decide) ?_
    exact aw_iret rfl (by decide) (by decide) dX12_forget_13 ⟨_, rfl, rfl, (Ok.dn h :)⟩
theorem dX12_isCase_0 : decode cX12_isCase 0 = .ok (.aload_n 0, 1) := by decide +kernel
theorem dX12_isCase_1 : decode cX12_isCase 1 = .ok (.getfield 27, 3) := by decide +kernel
theorem dX12_isCase_4 : decode cX12_isCase 4 = .ok (.iconst 0, 1) := by decide +kernel
theorem dX12_isCase_5 : decode cX12_isCase 5 = .ok (.iaload, 1) := by decide +kernel
theorem dX12_isCase_6 : decode cX12_isCase 6 = .ok (.aload_n 0, 1) := by decide +kernel
theorem dX12_isCase_7 : decode cX12_isCase 7 = .ok (.getfield 27, 3) := by decide +kernel
theorem dX12_isCase_10 : decode cX12_isCase 10 = .ok (.iconst 1, 1) := by decide +kernel
theorem dX12_isCase_11 : decode cX12_isCase 11 = .ok (.iaload, 1) := by decide +kernel
theorem dX12_isCase_12 : decode cX12_isCase 12 = .ok (.imul, 1) := by decide +kernel
theorem dX12_isCase_13 : decode cX12_isCase 13 = .ok (.istore_n 3, 1) := by decide +kernel
theorem dX12_isCase_14 : decode cX12_isCase 14 = .ok (.aload_n 0, 1) := by decide +kernel
theorem dX12_isCase_15 : decode cX12_isCase 15 = .ok (.getfield 27, 3) := by decide +kernel
theorem dX12_isCase_18 : decode cX12_isCase 18 = .ok (.bipush 10, 2) := by decide +kernel
theorem dX12_isCase_20 : decode cX12_isCase 20 = .ok (.iload_n 1, 1) := by decide +kernel
theorem dX12_isCase_21 : decode cX12_isCase 21 = .ok (.iadd, 1) := by decide +kernel
theorem dX12_isCase_22 : decode cX12_isCase 22 = .ok (.iaload, 1) := by decide +kernel
theorem dX12_isCase_23 : decode cX12_isCase 23 = .ok (.ifCond .ne 5, 3) := by decide +kernel
theorem dX12_isCase_26 : decode cX12_isCase 26 = .ok (.iconst 0, 1) := by decide +kernel
theorem dX12_isCase_27 : decode cX12_isCase 27 = .ok (.ireturn, 1) := by decide +kernel
theorem dX12_isCase_28 : decode cX12_isCase 28 = .ok (.iload_n 2, 1) := by decide +kernel
theorem dX12_isCase_29 : decode cX12_isCase 29 = .ok (.ifCond .ne 5, 3) := by decide +kernel
theorem dX12_isCase_32 : decode cX12_isCase 32 = .ok (.iconst 1, 1) := by decide +kernel
theorem dX12_isCase_33 : decode cX12_isCase 33 = .ok (.ireturn, 1) := by decide +kernel
theorem dX12_isCase_34 : decode cX12_isCase 34 = .ok (.aload_n 0, 1) := by decide +kernel
theorem dX12_isCase_35 : decode cX12_isCase 35 = .ok (.iconst 0, 1) := by decide +kernel
theorem dX12_isCase_36 : decode cX12_isCase 36 = .ok (.aload_n 0, 1) := by decide +kernel
theorem dX12_isCase_37 : decode cX12_isCase 37 = .ok (.getfield 303, 3) := by decide +kernel
theorem dX12_isCase_40 : decode cX12_isCase 40 = .ok (.iload_n 2, 1) := by decide +kernel
theorem dX12_isCase_41 : decode cX12_isCase 41 = .ok (.iconst 1, 1) := by decide +kernel
theorem dX12_isCase_42 : decode cX12_isCase 42 = .ok (.isub, 1) := by decide +kernel
theorem dX12_isCase_43 : decode cX12_isCase 43 = .ok (.iload_n 3, 1) := by decide +kernel
theorem dX12_isCase_44 : decode cX12_isCase 44 = .ok (.irem, 1) := by decide +kernel
theorem dX12_isCase_45 : decode cX12_isCase 45 = .ok (.invokevirtual 251, 3) := by decide +kernel
theorem dX12_isCase_48 : decode cX12_isCase 48 = .ok (.ifCond .eq 5, 3) := by decide +kernel
theorem dX12_isCase_51 : decode cX12_isCase 51 = .ok (.iconst 0, 1) := by decide +kernel
theorem dX12_isCase_52 : decode cX12_isCase 52 = .ok (.ireturn, 1) := by decide +kernel
theorem dX12_isCase_53 : decode cX12_isCase 53 = .ok (.aload_n 0, 1) := by decide +kernel
theorem dX12_isCase_54 : decode cX12_isCase 54 = .ok (.iload_n 2, 1) := by decide +kernel
theorem dX12_isCase_55 : decode cX12_isCase 55 = .ok (.iconst 1, 1) := by decide +kernel
theorem dX12_isCase_56 : decode cX12_isCase 56 = .ok (.isub, 1) := by decide +kernel
theorem dX12_isCase_57 : decode cX12_isCase 57 = .ok (.iload_n 3, 1) := by decide +kernel
theorem dX12_isCase_58 : decode cX12_isCase 58 = .ok (.idiv, 1) := by decide +kernel
theorem dX12_isCase_59 : decode cX12_isCase 59 = .ok (.iload_n 2, 1) := by decide +kernel
theorem dX12_isCase_60 : decode cX12_isCase 60 = .ok (.iconst 1, 1) := by decide +kernel
theorem dX12_isCase_61 : decode cX12_isCase 61 = .ok (.isub, 1) := by decide +kernel
theorem dX12_isCase_62 : decode cX12_isCase 62 = .ok (.iload_n 3, 1) := by decide +kernel
theorem dX12_isCase_63 : decode cX12_isCase 63 = .ok (.irem, 1) := by decide +kernel
theorem dX12_isCase_64 : decode cX12_isCase 64 = .ok (.iconst (-1), 1) := by decide +kernel
theorem dX12_isCase_65 : decode cX12_isCase 65 = .ok (.invokevirtual 391, 3) := by decide +kernel
theorem dX12_isCase_68 : decode cX12_isCase 68 = .ok (.iconst 1, 1) := by decide +kernel
theorem dX12_isCase_69 : decode cX12_isCase 69 = .ok (.ireturn, 1) := by decide +kernel
def f_X12_isCase (v1 : Int32) (v2 : Int32) (D : aD) : Option (Int32 × aD) :=
  aGd (aIn 0 32) (aGd (aIn 1 32) (aLet ((gI D 91 (0 : Int32).toNatClampNeg) * (gI D 91 (1 : Int32).toNatClampNeg)) (fun v3_3 => aGd (aIn (10 + v1) 32) (if gI D 91 (10 + v1).toNatClampNeg ≠ 0 then (if v2 ≠ 0 then (aGd (aNz v3_3) (aBi (f_X12_hasPlant 0 (gI D 88 30) ((v2 - 1) - (v2 - 1) / v3_3 * v3_3) D) (fun y_6 D_7 => if y_6 = 0 then (aGd (aNz v3_3) (aGd (aNz v3_3) ((f_X12_growAs ((v2 - 1) / v3_3) ((v2 - 1) - (v2 - 1) / v3_3 * v3_3) (-1) D_7).bind (fun D_10 => some (1, D_10))))) else (some (0, D_7))))) else (some (1, D))) else (some (0, D))))))
set_option maxRecDepth 100000 in
set_option maxHeartbeats 800000 in
theorem c_X12_isCase {G : aG} (hG : gOK G) {shp : List aSh} (hS : aShp shp) {fr : Option Nat} {v1 : Int32} {v2 : Int32} {D : aD} {K : Int32 → aD → Prop} (h : Ok2 (f_X12_isCase v1 v2 D) K) : AC G (aRm 2 0 0) M_X12_isCase [.ref 88, .int v1, .int v2] fr shp D (aQi shp K) := by
  replace h := Ok2.ok h
  unfold f_X12_isCase at h
  refine AC.of (al := [some (.ref 88), some (.int v1), some (.int v2), none]) (r := 1) (by decide) (Nat.le_of_ble_eq_true rfl) rfl ?_
  refine aw_aload_n (n := 1) (i := 0) dX12_isCase_0 rfl rfl rfl ?_
  refine aw_getR (n := 4) (j := 3) (r := 91) hG.1 fl_RX12_27 (sF_88 hS) rfl dX12_isCase_1 rfl ?_
  refine aw_iconst (n := 5) (v := 0) dX12_isCase_4 rfl (by decide) ?_
  obtain ⟨g_1, h⟩ := Ok.gd h
  refine aw_iaload (n := 6) hG.1 (sF_91 hS) (aIn_in g_1) dX12_isCase_5 rfl ?_
  refine aw_aload_n (n := 7) (i := 0) dX12_isCase_6 rfl rfl rfl ?_
  refine aw_getR (n := 10) (j := 3) (r := 91) hG.1 fl_RX12_27 (sF_88 hS) rfl dX12_isCase_7 rfl ?_
  refine aw_iconst (n := 11) (v := 1) dX12_isCase_10 rfl (by decide) ?_
  obtain ⟨g_2, h⟩ := Ok.gd h
  refine aw_iaload (n := 12) hG.1 (sF_91 hS) (aIn_in g_2) dX12_isCase_11 rfl ?_
  refine aw_imul (n := 13) dX12_isCase_12 rfl ?_
  obtain ⟨v3_3, e_v3_3, h⟩ := Ok.let_ h
  refine aw_istore_n (n := 14) (i := 3) (al' := [some (.ref 88), some (.int v1), some (.int v2), some (.int v3_3)]) dX12_isCase_13 rfl rfl e_v3_3 (by decide) rfl ?_
  refine aw_aload_n (n := 15) (i := 0) dX12_isCase_14 rfl rfl rfl ?_
  refine aw_getR (n := 18) (j := 3) (r := 91) hG.1 fl_RX12_27 (sF_88 hS) rfl dX12_isCase_15 rfl ?_
  refine aw_bipush (n := 20) (v := 10) dX12_isCase_18 rfl (by decide) ?_
  refine aw_iload_n (n := 21) (i := 1) dX12_isCase_20 rfl rfl rfl ?_
  refine aw_iadd (n := 22) dX12_isCase_21 rfl ?_
  obtain ⟨g_4, h⟩ := Ok.gd h
  refine aw_iaload (n := 23) hG.1 (sF_91 hS) (aIn_in g_4) dX12_isCase_22 rfl ?_
  refine aw_if_ne (n := 26) (tgt := 28) dX12_isCase_23 rfl (by decide) (fun c => ?_) (fun c => ?_)
  · replace h := Ok.ift h c
    refine aw_iload_n (n := 29) (i := 2) dX12_isCase_28 rfl rfl rfl ?_
    refine aw_if_ne (n := 32) (tgt := 34) dX12_isCase_29 rfl (by decide) (fun c => ?_) (fun c => ?_)
    · replace h := Ok.ift h c
      refine aw_aload_n (n := 35) (i := 0) dX12_isCase_34 rfl rfl rfl ?_
      refine aw_iconst (n := 36) (v := 0) dX12_isCase_35 rfl (by decide) ?_
      refine aw_aload_n (n := 37) (i := 0) dX12_isCase_36 rfl rfl rfl ?_
      refine aw_getI (n := 40) (j := 30) hG.1 fl_RX12_303 (sF_88 hS) rfl dX12_isCase_37 rfl ?_
      refine aw_iload_n (n := 41) (i := 2) dX12_isCase_40 rfl rfl rfl ?_
      refine aw_iconst (n := 42) (v := 1) dX12_isCase_41 rfl (by decide) ?_
      refine aw_isub (n := 43) dX12_isCase_42 rfl ?_
      refine aw_iload_n (n := 44) (i := 3) dX12_isCase_43 rfl rfl rfl ?_
      obtain ⟨g_5, h⟩ := Ok.gd h
      refine aw_irem (n := 45) dX12_isCase_44 rfl (aNz_ne g_5) ?_
      refine aw_cVi (M := M_X12_isCase) (n := 48) (As := [.int 0, .int (gI D 88 30), .int ((v2 - 1) - (v2 - 1) / v3_3 * v3_3)]) (rest := []) hG.1 lk_RX12_251 rfl rfl (sF_88 hS) (c_X12_hasPlant hG hS (h := Ok.bi h)) (by decide) (Nat.le_of_ble_eq_true rfl) (by decide) (by decide) dX12_isCase_45 rfl (fun y_6 D_7 h => ?_)
      refine aw_if_eq (n := 51) (tgt := 53) dX12_isCase_48 rfl (by decide) (fun c => ?_) (fun c => ?_)
      · replace h := Ok.ift h c
        refine aw_aload_n (n := 54) (i := 0) dX12_isCase_53 rfl rfl rfl ?_
        refine aw_iload_n (n := 55) (i := 2) dX12_isCase_54 rfl rfl rfl ?_
        refine aw_iconst (n := 56) (v := 1) dX12_isCase_55 rfl (by decide) ?_
        refine aw_isub (n := 57) dX12_isCase_56 rfl ?_
        refine aw_iload_n (n := 58) (i := 3) dX12_isCase_57 rfl rfl rfl ?_
        obtain ⟨g_8, h⟩ := Ok.gd h
        refine aw_idiv (n := 59) dX12_isCase_58 rfl (aNz_ne g_8) ?_
        refine aw_iload_n (n := 60) (i := 2) dX12_isCase_59 rfl rfl rfl ?_
        refine aw_iconst (n := 61) (v := 1) dX12_isCase_60 rfl (by decide) ?_
        refine aw_isub (n := 62) dX12_isCase_61 rfl ?_
        refine aw_iload_n (n := 63) (i := 3) dX12_isCase_62 rfl rfl rfl ?_
        obtain ⟨g_9, h⟩ := Ok.gd h
        refine aw_irem (n := 64) dX12_isCase_63 rfl (aNz_ne g_9) ?_
        refine aw_iconst (n := 65) (v := (-1)) dX12_isCase_64 rfl (by decide) ?_
        refine aw_cVv (M := M_X12_isCase) (n := 68) (As := [.int ((v2 - 1) / v3_3), .int ((v2 - 1) - (v2 - 1) / v3_3 * v3_3), .int (-1)]) (rest := []) hG.1 lk_RX12_391 rfl rfl (sF_88 hS) (c_X12_growAs hG hS (h := Ok.bind h)) (by decide) (Nat.le_of_ble_eq_true rfl) (by decide) (by decide) dX12_isCase_65 rfl (fun D_10 h => ?_)
        refine aw_iconst (n := 69) (v := 1) dX12_isCase_68 rfl (by decide) ?_
        exact aw_zret rfl (by decide) (by decide) (by decide) dX12_isCase_69 ⟨_, rfl, rfl, (Ok.dn h :)⟩
      · replace h := Ok.iff h c
        refine aw_iconst (n := 52) (v := 0) dX12_isCase_51 rfl (by decide) ?_
        exact aw_zret rfl (by decide) (by decide) (by decide) dX12_isCase_52 ⟨_, rfl, rfl, (Ok.dn h :)⟩
    · replace h := Ok.iffn h c
      refine aw_iconst (n := 33) (v := 1) dX12_isCase_32 rfl (by decide) ?_
      exact aw_zret rfl (by decide) (by decide) (by decide) dX12_isCase_33 ⟨_, rfl, rfl, (Ok.dn h :)⟩
  · replace h := Ok.iffn h c
    refine aw_iconst (n := 27) (v := 0) dX12_isCase_26 rfl (by decide) ?_
    exact aw_zret rfl (by decide) (by decide) (by decide) dX12_isCase_27 ⟨_, rfl, rfl, (Ok.dn h :)⟩
theorem dX12_fits_0 : decode cX12_fits 0 = .ok (.iconst 0, 1) := by decide +kernel
theorem dX12_fits_1 : decode cX12_fits 1 = .ok (.istore_n 2, 1) := by decide +kernel
theorem dX12_fits_2 : decode cX12_fits 2 = .ok (.iload_n 2, 1) := by decide +kernel
theorem dX12_fits_3 : decode cX12_fits 3 = .ok (.aload_n 0, 1) := by decide +kernel
theorem dX12_fits_4 : decode cX12_fits 4 = .ok (.getfield 309, 3) := by decide +kernel
theorem dX12_fits_7 : decode cX12_fits 7 = .ok (.if_icmp .ge 53, 3) := by decide +kernel
theorem dX12_fits_10 : decode cX12_fits 10 = .ok (.aload_n 0, 1) := by decide +kernel
theorem dX12_fits_11 : decode cX12_fits 11 = .ok (.aload_n 0, 1) := by decide +kernel
theorem dX12_fits_12 : decode cX12_fits 12 = .ok (.getfield 60, 3) := by decide +kernel
theorem dX12_fits_15 : decode cX12_fits 15 = .ok (.aload_n 0, 1) := by decide +kernel
theorem dX12_fits_16 : decode cX12_fits 16 = .ok (.getfield 115, 3) := by decide +kernel
theorem dX12_fits_19 : decode cX12_fits 19 = .ok (.iload_n 2, 1) := by decide +kernel
theorem dX12_fits_20 : decode cX12_fits 20 = .ok (.iaload, 1) := by decide +kernel
theorem dX12_fits_21 : decode cX12_fits 21 = .ok (.iaload, 1) := by decide +kernel
theorem dX12_fits_22 : decode cX12_fits 22 = .ok (.aload_n 0, 1) := by decide +kernel
theorem dX12_fits_23 : decode cX12_fits 23 = .ok (.getfield 118, 3) := by decide +kernel
theorem dX12_fits_26 : decode cX12_fits 26 = .ok (.iload_n 2, 1) := by decide +kernel
theorem dX12_fits_27 : decode cX12_fits 27 = .ok (.iaload, 1) := by decide +kernel
theorem dX12_fits_28 : decode cX12_fits 28 = .ok (.iload_n 1, 1) := by decide +kernel
theorem dX12_fits_29 : decode cX12_fits 29 = .ok (.invokevirtual 339, 3) := by decide +kernel
theorem dX12_fits_32 : decode cX12_fits 32 = .ok (.aload_n 0, 1) := by decide +kernel
theorem dX12_fits_33 : decode cX12_fits 33 = .ok (.getfield 94, 3) := by decide +kernel
theorem dX12_fits_36 : decode cX12_fits 36 = .ok (.aload_n 0, 1) := by decide +kernel
theorem dX12_fits_37 : decode cX12_fits 37 = .ok (.getfield 121, 3) := by decide +kernel
theorem dX12_fits_40 : decode cX12_fits 40 = .ok (.iload_n 2, 1) := by decide +kernel
theorem dX12_fits_41 : decode cX12_fits 41 = .ok (.iaload, 1) := by decide +kernel
theorem dX12_fits_42 : decode cX12_fits 42 = .ok (.iaload, 1) := by decide +kernel
theorem dX12_fits_43 : decode cX12_fits 43 = .ok (.aload_n 0, 1) := by decide +kernel
theorem dX12_fits_44 : decode cX12_fits 44 = .ok (.getfield 124, 3) := by decide +kernel
theorem dX12_fits_47 : decode cX12_fits 47 = .ok (.iload_n 2, 1) := by decide +kernel
theorem dX12_fits_48 : decode cX12_fits 48 = .ok (.iaload, 1) := by decide +kernel
theorem dX12_fits_49 : decode cX12_fits 49 = .ok (.if_icmp .eq 5, 3) := by decide +kernel
theorem dX12_fits_52 : decode cX12_fits 52 = .ok (.iconst 0, 1) := by decide +kernel
theorem dX12_fits_53 : decode cX12_fits 53 = .ok (.ireturn, 1) := by decide +kernel
theorem dX12_fits_54 : decode cX12_fits 54 = .ok (.iinc 2 1, 3) := by decide +kernel
theorem dX12_fits_57 : decode cX12_fits 57 = .ok (.goto (-55), 3) := by decide +kernel
theorem dX12_fits_60 : decode cX12_fits 60 = .ok (.iconst 1, 1) := by decide +kernel
theorem dX12_fits_61 : decode cX12_fits 61 = .ok (.ireturn, 1) := by decide +kernel
def J_X12_fits_52 (D : aD) : Option (Int32 × aD) :=
  some (0, D)
def J_X12_fits_60 (D : aD) : Option (Int32 × aD) :=
  some (1, D)
def B_X12_fits_2 (v1 : Int32) (v2 : Int32) (D : aD) : Option ((Int32 × aD) ⊕ ((aD) ⊕ (aD))) :=
  if gI D 88 33 ≤ v2 then (some (.inr (.inr (D)))) else (aGd (aIn v2 12) (aGd (aIn (gI D 118 v2.toNatClampNeg) 10) (aGd (aIn v2 12) ((f_X12_tellPlace (gI D 102 (gI D 118 v2.toNatClampNeg).toNatClampNeg) (gI D 119 v2.toNatClampNeg) v1 D).bind (fun D_4 => aGd (aIn v2 12) (aGd (aIn (gI D_4 120 v2.toNatClampNeg) 6) (aGd (aIn v2 12) (if gI D_4 111 (gI D_4 120 v2.toNatClampNeg).toNatClampNeg = gI D_4 121 v2.toNatClampNeg then (aLet (v2 + 1) (fun v2_8 => some (.inl (v2_8, D_4)))) else (some (.inr (.inl (D_4))))))))))))
def J_X12_fits_2 (v1 : Int32) (v2 : Int32) (D : aD) : Option (Int32 × aD) :=
  (aLp (fun s => B_X12_fits_2 v1 s.1 s.2) (v2, D)).bind (Sum.elim (fun r => J_X12_fits_52 r) ((fun r => J_X12_fits_60 r)))
def f_X12_fits (v1 : Int32) (D : aD) : Option (Int32 × aD) :=
  J_X12_fits_2 v1 0 D
set_option maxRecDepth 100000 in
set_option maxHeartbeats 800000 in
theorem c_X12_fits {G : aG} (hG : gOK G) {shp : List aSh} (hS : aShp shp) {fr : Option Nat} {v1 : Int32} {D : aD} {K : Int32 → aD → Prop} (h : Ok2 (f_X12_fits v1 D) K) : AC G (aRm 4 0 0) M_X12_fits [.ref 88, .int v1] fr shp D (aQi shp K) := by
  replace h := Ok2.ok h
  unfold f_X12_fits at h
  refine AC.of (al := [some (.ref 88), some (.int v1), none]) (r := 1) (by decide) (Nat.le_of_ble_eq_true rfl) rfl ?_
  have hJ_52 : ∀ (D : aD), Ok (J_X12_fits_52 D) (fun r => K r.1 r.2) → AW G (aRm 4 0 0) M_X12_fits fr 0 0 52 [none, none, none] [] shp D (aQi shp K) := by
    intro D h
    unfold J_X12_fits_52 at h
    refine aw_iconst (n := 53) (v := 0) dX12_fits_52 rfl (by decide) ?_
    exact aw_zret rfl (by decide) (by decide) (by decide) dX12_fits_53 ⟨_, rfl, rfl, (Ok.dn h :)⟩
  have hJ_60 : ∀ (D : aD), Ok (J_X12_fits_60 D) (fun r => K r.1 r.2) → AW G (aRm 4 0 0) M_X12_fits fr 0 0 60 [none, none, none] [] shp D (aQi shp K) := by
    intro D h
    unfold J_X12_fits_60 at h
    refine aw_iconst (n := 61) (v := 1) dX12_fits_60 rfl (by decide) ?_
    exact aw_zret rfl (by decide) (by decide) (by decide) dX12_fits_61 ⟨_, rfl, rfl, (Ok.dn h :)⟩
  have hJ_2 : ∀ (v1 : Int32) (v2 : Int32) (D : aD), Ok (J_X12_fits_2 v1 v2 D) (fun r => K r.1 r.2) → AW G (aRm 4 0 0) M_X12_fits fr 0 0 2 [some (.ref 88), some (.int v1), some (.int v2)] [] shp D (aQi shp K) := by
    intro v1 v2 D h
    unfold J_X12_fits_2 at h
    refine Ok.lp (P := fun s => AW G (aRm 4 0 0) M_X12_fits fr 0 0 2 [some (.ref 88), some (.int v1), some (.int (s.1))] [] shp s.2 (aQi shp K)) (fun s Kb2 hL2 hR2 h => ?_) (v2, D) (Ok.bind h)
    obtain ⟨v2, D⟩ := s
    replace h : Ok (B_X12_fits_2 v1 v2 D) Kb2 := h
    unfold B_X12_fits_2 at h
    refine aw_iload_n (n := 3) (i := 2) dX12_fits_2 rfl rfl rfl ?_
    refine aw_aload_n (n := 4) (i := 0) dX12_fits_3 rfl rfl rfl ?_
    refine aw_getI (n := 7) (j := 33) hG.1 fl_RX12_309 (sF_88 hS) rfl dX12_fits_4 rfl ?_
    refine aw_icmp_ge (n := 10) (tgt := 60) dX12_fits_7 rfl (by decide) (fun c => ?_) (fun c => ?_)
    · replace h := Ok.ift h c
      exact aw_le' (hJ_60 D (Ok.er (hR2 (.inr (D)) (Ok.dn h :)) :)) trivial
    · replace h := Ok.iff h c
      refine aw_aload_n (n := 11) (i := 0) dX12_fits_10 rfl rfl rfl ?_
      refine aw_aload_n (n := 12) (i := 0) dX12_fits_11 rfl rfl rfl ?_
      refine aw_getR (n := 15) (j := 14) (r := 102) hG.1 fl_RX12_60 (sF_88 hS) rfl dX12_fits_12 rfl ?_
      refine aw_aload_n (n := 16) (i := 0) dX12_fits_15 rfl rfl rfl ?_
      refine aw_getR (n := 19) (j := 47) (r := 118) hG.1 fl_RX12_115 (sF_88 hS) rfl dX12_fits_16 rfl ?_
      refine aw_iload_n (n := 20) (i := 2) dX12_fits_19 rfl rfl rfl ?_
      obtain ⟨g_1, h⟩ := Ok.gd h
      refine aw_iaload (n := 21) hG.1 (sF_118 hS) (aIn_in g_1) dX12_fits_20 rfl ?_
      obtain ⟨g_2, h⟩ := Ok.gd h
      refine aw_iaload (n := 22) hG.1 (sF_102 hS) (aIn_in g_2) dX12_fits_21 rfl ?_
      refine aw_aload_n (n := 23) (i := 0) dX12_fits_22 rfl rfl rfl ?_
      refine aw_getR (n := 26) (j := 48) (r := 119) hG.1 fl_RX12_118 (sF_88 hS) rfl dX12_fits_23 rfl ?_
      refine aw_iload_n (n := 27) (i := 2) dX12_fits_26 rfl rfl rfl ?_
      obtain ⟨g_3, h⟩ := Ok.gd h
      refine aw_iaload (n := 28) hG.1 (sF_119 hS) (aIn_in g_3) dX12_fits_27 rfl ?_
      refine aw_iload_n (n := 29) (i := 1) dX12_fits_28 rfl rfl rfl ?_
      refine aw_cVv (M := M_X12_fits) (n := 32) (As := [.int (gI D 102 (gI D 118 v2.toNatClampNeg).toNatClampNeg), .int (gI D 119 v2.toNatClampNeg), .int v1]) (rest := []) hG.1 lk_RX12_339 rfl rfl (sF_88 hS) (c_X12_tellPlace hG hS (h := Ok.bind h)) (by decide) (Nat.le_of_ble_eq_true rfl) (by decide) (by decide) dX12_fits_29 rfl (fun D_4 h => ?_)
      refine aw_aload_n (n := 33) (i := 0) dX12_fits_32 rfl rfl rfl ?_
      refine aw_getR (n := 36) (j := 37) (r := 111) hG.1 fl_RX12_94 (sF_88 hS) rfl dX12_fits_33 rfl ?_
      refine aw_aload_n (n := 37) (i := 0) dX12_fits_36 rfl rfl rfl ?_
      refine aw_getR (n := 40) (j := 49) (r := 120) hG.1 fl_RX12_121 (sF_88 hS) rfl dX12_fits_37 rfl ?_
      refine aw_iload_n (n := 41) (i := 2) dX12_fits_40 rfl rfl rfl ?_
      obtain ⟨g_5, h⟩ := Ok.gd h
      refine aw_iaload (n := 42) hG.1 (sF_120 hS) (aIn_in g_5) dX12_fits_41 rfl ?_
      obtain ⟨g_6, h⟩ := Ok.gd h
      refine aw_iaload (n := 43) hG.1 (sF_111 hS) (aIn_in g_6) dX12_fits_42 rfl ?_
      refine aw_aload_n (n := 44) (i := 0) dX12_fits_43 rfl rfl rfl ?_
      refine aw_getR (n := 47) (j := 50) (r := 121) hG.1 fl_RX12_124 (sF_88 hS) rfl dX12_fits_44 rfl ?_
      refine aw_iload_n (n := 48) (i := 2) dX12_fits_47 rfl rfl rfl ?_
      obtain ⟨g_7, h⟩ := Ok.gd h
      refine aw_iaload (n := 49) hG.1 (sF_121 hS) (aIn_in g_7) dX12_fits_48 rfl ?_
      refine aw_icmp_eq (n := 52) (tgt := 54) dX12_fits_49 rfl (by decide) (fun c => ?_) (fun c => ?_)
      · replace h := Ok.ift h c
        obtain ⟨v2_8, e_v2_8, h⟩ := Ok.let_ h
        refine aw_iinc (n := 57) (al' := [some (.ref 88), some (.int v1), some (.int v2_8)]) dX12_fits_54 rfl rfl e_v2_8 (by decide) rfl ?_
        refine aw_goto (tgt := 2) dX12_fits_57 (by decide) ?_
        exact aw_le' (hL2 (v2_8, D_4) (Ok.dn h :)) ⟨rfl, ⟨rfl, ⟨rfl, trivial⟩⟩⟩
      · replace h := Ok.iff h c
        exact aw_le' (hJ_52 D_4 (Ok.el (hR2 (.inl (D_4)) (Ok.dn h :)) :)) trivial
  refine aw_iconst (n := 1) (v := 0) dX12_fits_0 rfl (by decide) ?_
  refine aw_istore_n (n := 2) (i := 2) (al' := [some (.ref 88), some (.int v1), some (.int 0)]) dX12_fits_1 rfl rfl rfl (by decide) rfl ?_
  exact aw_le' (hJ_2 v1 0 D h) ⟨rfl, ⟨rfl, ⟨rfl, trivial⟩⟩⟩
theorem dX12_tellCases_0 : decode cX12_tellCases 0 = .ok (.aload_n 0, 1) := by decide +kernel
theorem dX12_tellCases_1 : decode cX12_tellCases 1 = .ok (.iconst 0, 1) := by decide +kernel
theorem dX12_tellCases_2 : decode cX12_tellCases 2 = .ok (.putfield 403, 3) := by decide +kernel
theorem dX12_tellCases_5 : decode cX12_tellCases 5 = .ok (.iconst 0, 1) := by decide +kernel
theorem dX12_tellCases_6 : decode cX12_tellCases 6 = .ok (.istore_n 1, 1) := by decide +kernel
theorem dX12_tellCases_7 : decode cX12_tellCases 7 = .ok (.iload_n 1, 1) := by decide +kernel
theorem dX12_tellCases_8 : decode cX12_tellCases 8 = .ok (.iconst 5, 1) := by decide +kernel
theorem dX12_tellCases_9 : decode cX12_tellCases 9 = .ok (.if_icmp .ge 97, 3) := by decide +kernel
theorem dX12_tellCases_12 : decode cX12_tellCases 12 = .ok (.iconst 0, 1) := by decide +kernel
theorem dX12_tellCases_13 : decode cX12_tellCases 13 = .ok (.istore_n 2, 1) := by decide +kernel
theorem dX12_tellCases_14 : decode cX12_tellCases 14 = .ok (.iload_n 2, 1) := by decide +kernel
theorem dX12_tellCases_15 : decode cX12_tellCases 15 = .ok (.aload_n 0, 1) := by decide +kernel
theorem dX12_tellCases_16 : decode cX12_tellCases 16 = .ok (.getfield 27, 3) := by decide +kernel
theorem dX12_tellCases_19 : decode cX12_tellCases 19 = .ok (.iconst 0, 1) := by decide +kernel
theorem dX12_tellCases_20 : decode cX12_tellCases 20 = .ok (.iaload, 1) := by decide +kernel
theorem dX12_tellCases_21 : decode cX12_tellCases 21 = .ok (.aload_n 0, 1) := by decide +kernel
theorem dX12_tellCases_22 : decode cX12_tellCases 22 = .ok (.getfield 27, 3) := by decide +kernel
theorem dX12_tellCases_25 : decode cX12_tellCases 25 = .ok (.iconst 1, 1) := by decide +kernel
theorem dX12_tellCases_26 : decode cX12_tellCases 26 = .ok (.iaload, 1) := by decide +kernel
theorem dX12_tellCases_27 : decode cX12_tellCases 27 = .ok (.imul, 1) := by decide +kernel
theorem dX12_tellCases_28 : decode cX12_tellCases 28 = .ok (.aload_n 0, 1) := by decide +kernel
theorem dX12_tellCases_29 : decode cX12_tellCases 29 = .ok (.getfield 27, 3) := by decide +kernel
theorem dX12_tellCases_32 : decode cX12_tellCases 32 = .ok (.iconst 2, 1) := by decide +kernel
theorem dX12_tellCases_33 : decode cX12_tellCases 33 = .ok (.iaload, 1) := by decide +kernel
theorem dX12_tellCases_34 : decode cX12_tellCases 34 = .ok (.imul, 1) := by decide +kernel
theorem dX12_tellCases_35 : decode cX12_tellCases 35 = .ok (.if_icmp .gt 65, 3) := by decide +kernel
theorem dX12_tellCases_38 : decode cX12_tellCases 38 = .ok (.aload_n 0, 1) := by decide +kernel
theorem dX12_tellCases_39 : decode cX12_tellCases 39 = .ok (.iload_n 1, 1) := by decide +kernel
theorem dX12_tellCases_40 : decode cX12_tellCases 40 = .ok (.iload_n 2, 1) := by decide +kernel
theorem dX12_tellCases_41 : decode cX12_tellCases 41 = .ok (.invokevirtual 406, 3) := by decide +kernel
theorem dX12_tellCases_44 : decode cX12_tellCases 44 = .ok (.ifCond .ne 6, 3) := by decide +kernel
theorem dX12_tellCases_47 : decode cX12_tellCases 47 = .ok (.goto 47, 3) := by decide +kernel
theorem dX12_tellCases_50 : decode cX12_tellCases 50 = .ok (.aload_n 0, 1) := by decide +kernel
theorem dX12_tellCases_51 : decode cX12_tellCases 51 = .ok (.iload_n 1, 1) := by decide +kernel
theorem dX12_tellCases_52 : decode cX12_tellCases 52 = .ok (.invokevirtual 409, 3) := by decide +kernel
theorem dX12_tellCases_55 : decode cX12_tellCases 55 = .ok (.ifCond .eq 29, 3) := by decide +kernel
theorem dX12_tellCases_58 : decode cX12_tellCases 58 = .ok (.aload_n 0, 1) := by decide +kernel
theorem dX12_tellCases_59 : decode cX12_tellCases 59 = .ok (.getfield 127, 3) := by decide +kernel
theorem dX12_tellCases_62 : decode cX12_tellCases 62 = .ok (.aload_n 0, 1) := by decide +kernel
theorem dX12_tellCases_63 : decode cX12_tellCases 63 = .ok (.getfield 403, 3) := by decide +kernel
theorem dX12_tellCases_66 : decode cX12_tellCases 66 = .ok (.sipush 1000, 3) := by decide +kernel
theorem dX12_tellCases_69 : decode cX12_tellCases 69 = .ok (.iload_n 1, 1) := by decide +kernel
theorem dX12_tellCases_70 : decode cX12_tellCases 70 = .ok (.imul, 1) := by decide +kernel
theorem dX12_tellCases_71 : decode cX12_tellCases 71 = .ok (.iload_n 2, 1) := by decide +kernel
theorem dX12_tellCases_72 : decode cX12_tellCases 72 = .ok (.iadd, 1) := by decide +kernel
theorem dX12_tellCases_73 : decode cX12_tellCases 73 = .ok (.iastore, 1) := by decide +kernel
theorem dX12_tellCases_74 : decode cX12_tellCases 74 = .ok (.aload_n 0, 1) := by decide +kernel
theorem dX12_tellCases_75 : decode cX12_tellCases 75 = .ok (.dup, 1) := by decide +kernel
theorem dX12_tellCases_76 : decode cX12_tellCases 76 = .ok (.getfield 403, 3) := by decide +kernel
theorem dX12_tellCases_79 : decode cX12_tellCases 79 = .ok (.iconst 1, 1) := by decide +kernel
theorem dX12_tellCases_80 : decode cX12_tellCases 80 = .ok (.iadd, 1) := by decide +kernel
theorem dX12_tellCases_81 : decode cX12_tellCases 81 = .ok (.putfield 403, 3) := by decide +kernel
theorem dX12_tellCases_84 : decode cX12_tellCases 84 = .ok (.aload_n 0, 1) := by decide +kernel
theorem dX12_tellCases_85 : decode cX12_tellCases 85 = .ok (.aload_n 0, 1) := by decide +kernel
theorem dX12_tellCases_86 : decode cX12_tellCases 86 = .ok (.getfield 27, 3) := by decide +kernel
theorem dX12_tellCases_89 : decode cX12_tellCases 89 = .ok (.iconst 4, 1) := by decide +kernel
theorem dX12_tellCases_90 : decode cX12_tellCases 90 = .ok (.iaload, 1) := by decide +kernel
theorem dX12_tellCases_91 : decode cX12_tellCases 91 = .ok (.putfield 303, 3) := by decide +kernel
theorem dX12_tellCases_94 : decode cX12_tellCases 94 = .ok (.iinc 2 1, 3) := by decide +kernel
theorem dX12_tellCases_97 : decode cX12_tellCases 97 = .ok (.goto (-83), 3) := by decide +kernel
theorem dX12_tellCases_100 : decode cX12_tellCases 100 = .ok (.iinc 1 1, 3) := by decide +kernel
theorem dX12_tellCases_103 : decode cX12_tellCases 103 = .ok (.goto (-96), 3) := by decide +kernel
theorem dX12_tellCases_106 : decode cX12_tellCases 106 = .ok (.return_, 1) := by decide +kernel
def J_X12_tellCases_106 (D : aD) : Option (aD) :=
  some D
def J_X12_tellCases_100 (v1 : Int32) (D : aD) : Option ((Int32 × aD) ⊕ ((aD))) :=
  aLet (v1 + 1) (fun v1_2 => some (.inl (v1_2, D)))
def J_X12_tellCases_84 (v1 : Int32) (v2 : Int32) (D : aD) : Option ((Int32 × aD) ⊕ ((aD))) :=
  aGd (aIn 4 32) (aLet (pI D 88 30 (gI D 91 (4 : Int32).toNatClampNeg)) (fun D_11 => aLet (v2 + 1) (fun v2_12 => some (.inl (v2_12, D_11)))))
def B_X12_tellCases_14 (v1 : Int32) (v2 : Int32) (D : aD) : Option ((Int32 × aD) ⊕ ((aD))) :=
  aGd (aIn 0 32) (aGd (aIn 1 32) (aGd (aIn 2 32) (if ((gI D 91 (0 : Int32).toNatClampNeg) * (gI D 91 (1 : Int32).toNatClampNeg)) * (gI D 91 (2 : Int32).toNatClampNeg) < v2 then (some (.inr D)) else (aBi (f_X12_isCase v1 v2 D) (fun y_6 D_7 => if y_6 ≠ 0 then (aBi (f_X12_fits v1 D_7) (fun y_8 D_9 => if y_8 = 0 then (J_X12_tellCases_84 v1 v2 D_9) else (aGd (aIn (gI D_9 88 52) 1925) (aLet (pI D_9 122 (gI D_9 88 52).toNatClampNeg ((1000 * v1) + v2)) (fun D_14 => aLet (pI D_14 88 52 ((gI D_14 88 52) + 1)) (fun D_15 => J_X12_tellCases_84 v1 v2 D_15)))))) else (aLet (v2 + 1) (fun v2_16 => some (.inl (v2_16, D_7)))))))))
def J_X12_tellCases_14 (v1 : Int32) (v2 : Int32) (D : aD) : Option ((Int32 × aD) ⊕ ((aD))) :=
  (aLp (fun s => B_X12_tellCases_14 v1 s.1 s.2) (v2, D)).bind (fun r => J_X12_tellCases_100 v1 r)
def B_X12_tellCases_7 (v1 : Int32) (D : aD) : Option ((Int32 × aD) ⊕ ((aD))) :=
  if 5 ≤ v1 then (some (.inr D)) else (J_X12_tellCases_14 v1 0 D)
def J_X12_tellCases_7 (v1 : Int32) (D : aD) : Option (aD) :=
  (aLp (fun s => B_X12_tellCases_7 s.1 s.2) (v1, D)).bind (fun r => J_X12_tellCases_106 r)
def f_X12_tellCases (D : aD) : Option (aD) :=
  aLet (pI D 88 52 0) (fun D_1 => J_X12_tellCases_7 0 D_1)
set_option maxRecDepth 100000 in
set_option maxHeartbeats 800000 in
theorem c_X12_tellCases {G : aG} (hG : gOK G) {shp : List aSh} (hS : aShp shp) {fr : Option Nat} {D : aD} {K : aD → Prop} (h : Ok (f_X12_tellCases D) K) : AC G (aRm 5 0 0) M_X12_tellCases [.ref 88] fr shp D (aQv shp K) := by
  unfold f_X12_tellCases at h
  refine AC.of (al := [some (.ref 88), none, none]) (r := 2) (by decide) (Nat.le_of_ble_eq_true rfl) rfl ?_
  have hJ_106 : ∀ (D : aD), Ok (J_X12_tellCases_106 D) K → AW G (aRm 5 0 0) M_X12_tellCases fr 0 0 106 [none, none, none] [] shp D (aQv shp K) := by
    intro D h
    unfold J_X12_tellCases_106 at h
    exact aw_vret rfl (by decide) (by decide) dX12_tellCases_106 ⟨rfl, rfl, (Ok.dn h :)⟩
  have hJ_7 : ∀ (v1 : Int32) (D : aD), Ok (J_X12_tellCases_7 v1 D) K → AW G (aRm 5 0 0) M_X12_tellCases fr 0 0 7 [some (.ref 88), some (.int v1), none] [] shp D (aQv shp K) := by
    intro v1 D h
    unfold J_X12_tellCases_7 at h
    refine Ok.lp (P := fun s => AW G (aRm 5 0 0) M_X12_tellCases fr 0 0 7 [some (.ref 88), some (.int (s.1)), none] [] shp s.2 (aQv shp K)) (fun s Kb7 hL7 hR7 h => ?_) (v1, D) (Ok.bind h)
    obtain ⟨v1, D⟩ := s
    replace h : Ok (B_X12_tellCases_7 v1 D) Kb7 := h
    unfold B_X12_tellCases_7 at h
    have hJ_100 : ∀ (v1 : Int32) (D : aD), Ok (J_X12_tellCases_100 v1 D) Kb7 → AW G (aRm 5 0 0) M_X12_tellCases fr 0 0 100 [some (.ref 88), some (.int v1), none] [] shp D (aQv shp K) := by
      intro v1 D h
      unfold J_X12_tellCases_100 at h
      obtain ⟨v1_2, e_v1_2, h⟩ := Ok.let_ h
      refine aw_iinc (n := 103) (al' := [some (.ref 88), some (.int v1_2), none]) dX12_tellCases_100 rfl rfl e_v1_2 (by decide) rfl ?_
      refine aw_goto (tgt := 7) dX12_tellCases_103 (by decide) ?_
      exact aw_le' (hL7 (v1_2, D) (Ok.dn h :)) ⟨rfl, ⟨rfl, trivial⟩⟩
    have hJ_14 : ∀ (v1 : Int32) (v2 : Int32) (D : aD), Ok (J_X12_tellCases_14 v1 v2 D) Kb7 → AW G (aRm 5 0 0) M_X12_tellCases fr 0 0 14 [some (.ref 88), some (.int v1), some (.int v2)] [] shp D (aQv shp K) := by
      intro v1 v2 D h
      unfold J_X12_tellCases_14 at h
      refine Ok.lp (P := fun s => AW G (aRm 5 0 0) M_X12_tellCases fr 0 0 14 [some (.ref 88), some (.int v1), some (.int (s.1))] [] shp s.2 (aQv shp K)) (fun s Kb14 hL14 hR14 h => ?_) (v2, D) (Ok.bind h)
      obtain ⟨v2, D⟩ := s
      replace h : Ok (B_X12_tellCases_14 v1 v2 D) Kb14 := h
      unfold B_X12_tellCases_14 at h
      have hJ_84 : ∀ (v2 : Int32) (D : aD), Ok (J_X12_tellCases_84 v1 v2 D) Kb14 → AW G (aRm 5 0 0) M_X12_tellCases fr 0 0 84 [some (.ref 88), some (.int v1), some (.int v2)] [] shp D (aQv shp K) := by
        intro v2 D h
        unfold J_X12_tellCases_84 at h
        refine aw_aload_n (n := 85) (i := 0) dX12_tellCases_84 rfl rfl rfl ?_
        refine aw_aload_n (n := 86) (i := 0) dX12_tellCases_85 rfl rfl rfl ?_
        refine aw_getR (n := 89) (j := 3) (r := 91) hG.1 fl_RX12_27 (sF_88 hS) rfl dX12_tellCases_86 rfl ?_
        refine aw_iconst (n := 90) (v := 4) dX12_tellCases_89 rfl (by decide) ?_
        obtain ⟨g_10, h⟩ := Ok.gd h
        refine aw_iaload (n := 91) hG.1 (sF_91 hS) (aIn_in g_10) dX12_tellCases_90 rfl ?_
        obtain ⟨D_11, e_D_11, h⟩ := Ok.let_ h
        refine aw_putI (n := 94) (j := 30) hG.1 fl_RX12_303 (sF_88 hS) rfl e_D_11 dX12_tellCases_91 rfl ?_
        obtain ⟨v2_12, e_v2_12, h⟩ := Ok.let_ h
        refine aw_iinc (n := 97) (al' := [some (.ref 88), some (.int v1), some (.int v2_12)]) dX12_tellCases_94 rfl rfl e_v2_12 (by decide) rfl ?_
        refine aw_goto (tgt := 14) dX12_tellCases_97 (by decide) ?_
        exact aw_le' (hL14 (v2_12, D_11) (Ok.dn h :)) ⟨rfl, ⟨rfl, ⟨rfl, trivial⟩⟩⟩
      refine aw_iload_n (n := 15) (i := 2) dX12_tellCases_14 rfl rfl rfl ?_
      refine aw_aload_n (n := 16) (i := 0) dX12_tellCases_15 rfl rfl rfl ?_
      refine aw_getR (n := 19) (j := 3) (r := 91) hG.1 fl_RX12_27 (sF_88 hS) rfl dX12_tellCases_16 rfl ?_
      refine aw_iconst (n := 20) (v := 0) dX12_tellCases_19 rfl (by decide) ?_
      obtain ⟨g_3, h⟩ := Ok.gd h
      refine aw_iaload (n := 21) hG.1 (sF_91 hS) (aIn_in g_3) dX12_tellCases_20 rfl ?_
      refine aw_aload_n (n := 22) (i := 0) dX12_tellCases_21 rfl rfl rfl ?_
      refine aw_getR (n := 25) (j := 3) (r := 91) hG.1 fl_RX12_27 (sF_88 hS) rfl dX12_tellCases_22 rfl ?_
      refine aw_iconst (n := 26) (v := 1) dX12_tellCases_25 rfl (by decide) ?_
      obtain ⟨g_4, h⟩ := Ok.gd h
      refine aw_iaload (n := 27) hG.1 (sF_91 hS) (aIn_in g_4) dX12_tellCases_26 rfl ?_
      refine aw_imul (n := 28) dX12_tellCases_27 rfl ?_
      refine aw_aload_n (n := 29) (i := 0) dX12_tellCases_28 rfl rfl rfl ?_
      refine aw_getR (n := 32) (j := 3) (r := 91) hG.1 fl_RX12_27 (sF_88 hS) rfl dX12_tellCases_29 rfl ?_
      refine aw_iconst (n := 33) (v := 2) dX12_tellCases_32 rfl (by decide) ?_
      obtain ⟨g_5, h⟩ := Ok.gd h
      refine aw_iaload (n := 34) hG.1 (sF_91 hS) (aIn_in g_5) dX12_tellCases_33 rfl ?_
      refine aw_imul (n := 35) dX12_tellCases_34 rfl ?_
      refine aw_icmp_gt (n := 38) (tgt := 100) dX12_tellCases_35 rfl (by decide) (fun c => ?_) (fun c => ?_)
      · replace h := Ok.ift h c
        exact aw_le' (hJ_100 v1 D (hR14 D (Ok.dn h :))) ⟨rfl, ⟨rfl, trivial⟩⟩
      · replace h := Ok.iff h c
        refine aw_aload_n (n := 39) (i := 0) dX12_tellCases_38 rfl rfl rfl ?_
        refine aw_iload_n (n := 40) (i := 1) dX12_tellCases_39 rfl rfl rfl ?_
        refine aw_iload_n (n := 41) (i := 2) dX12_tellCases_40 rfl rfl rfl ?_
        refine aw_cVi (M := M_X12_tellCases) (n := 44) (As := [.int v1, .int v2]) (rest := []) hG.1 lk_RX12_406 rfl rfl (sF_88 hS) (c_X12_isCase hG hS (h := Ok.bi h)) (by decide) (Nat.le_of_ble_eq_true rfl) (by decide) (by decide) dX12_tellCases_41 rfl (fun y_6 D_7 h => ?_)
        refine aw_if_ne (n := 47) (tgt := 50) dX12_tellCases_44 rfl (by decide) (fun c => ?_) (fun c => ?_)
        · replace h := Ok.ift h c
          refine aw_aload_n (n := 51) (i := 0) dX12_tellCases_50 rfl rfl rfl ?_
          refine aw_iload_n (n := 52) (i := 1) dX12_tellCases_51 rfl rfl rfl ?_
          refine aw_cVi (M := M_X12_tellCases) (n := 55) (As := [.int v1]) (rest := []) hG.1 lk_RX12_409 rfl rfl (sF_88 hS) (c_X12_fits hG hS (h := Ok.bi h)) (by decide) (Nat.le_of_ble_eq_true rfl) (by decide) (by decide) dX12_tellCases_52 rfl (fun y_8 D_9 h => ?_)
          refine aw_if_eq (n := 58) (tgt := 84) dX12_tellCases_55 rfl (by decide) (fun c => ?_) (fun c => ?_)
          · replace h := Ok.ift h c
            exact aw_le' (hJ_84 v2 D_9 h) ⟨rfl, ⟨rfl, ⟨rfl, trivial⟩⟩⟩
          · replace h := Ok.iff h c
            refine aw_aload_n (n := 59) (i := 0) dX12_tellCases_58 rfl rfl rfl ?_
            refine aw_getR (n := 62) (j := 51) (r := 122) hG.1 fl_RX12_127 (sF_88 hS) rfl dX12_tellCases_59 rfl ?_
            refine aw_aload_n (n := 63) (i := 0) dX12_tellCases_62 rfl rfl rfl ?_
            refine aw_getI (n := 66) (j := 52) hG.1 fl_RX12_403 (sF_88 hS) rfl dX12_tellCases_63 rfl ?_
            refine aw_sipush (n := 69) (v := 1000) dX12_tellCases_66 rfl (by decide) ?_
            refine aw_iload_n (n := 70) (i := 1) dX12_tellCases_69 rfl rfl rfl ?_
            refine aw_imul (n := 71) dX12_tellCases_70 rfl ?_
            refine aw_iload_n (n := 72) (i := 2) dX12_tellCases_71 rfl rfl rfl ?_
            refine aw_iadd (n := 73) dX12_tellCases_72 rfl ?_
            obtain ⟨g_13, h⟩ := Ok.gd h
            obtain ⟨D_14, e_D_14, h⟩ := Ok.let_ h
            refine aw_iastore (n := 74) hG.1 (sF_122 hS) (aIn_in g_13) e_D_14 dX12_tellCases_73 rfl ?_
            refine aw_aload_n (n := 75) (i := 0) dX12_tellCases_74 rfl rfl rfl ?_
            refine aw_dup (n := 76) dX12_tellCases_75 rfl rfl ?_
            refine aw_getI (n := 79) (j := 52) hG.1 fl_RX12_403 (sF_88 hS) rfl dX12_tellCases_76 rfl ?_
            refine aw_iconst (n := 80) (v := 1) dX12_tellCases_79 rfl (by decide) ?_
            refine aw_iadd (n := 81) dX12_tellCases_80 rfl ?_
            obtain ⟨D_15, e_D_15, h⟩ := Ok.let_ h
            refine aw_putI (n := 84) (j := 52) hG.1 fl_RX12_403 (sF_88 hS) rfl e_D_15 dX12_tellCases_81 rfl ?_
            exact aw_le' (hJ_84 v2 D_15 h) ⟨rfl, ⟨rfl, ⟨rfl, trivial⟩⟩⟩
        · replace h := Ok.iffn h c
          refine aw_goto (tgt := 94) dX12_tellCases_47 (by decide) ?_
          obtain ⟨v2_16, e_v2_16, h⟩ := Ok.let_ h
          refine aw_iinc (n := 97) (al' := [some (.ref 88), some (.int v1), some (.int v2_16)]) dX12_tellCases_94 rfl rfl e_v2_16 (by decide) rfl ?_
          refine aw_goto (tgt := 14) dX12_tellCases_97 (by decide) ?_
          exact aw_le' (hL14 (v2_16, D_7) (Ok.dn h :)) ⟨rfl, ⟨rfl, ⟨rfl, trivial⟩⟩⟩
    refine aw_iload_n (n := 8) (i := 1) dX12_tellCases_7 rfl rfl rfl ?_
    refine aw_iconst (n := 9) (v := 5) dX12_tellCases_8 rfl (by decide) ?_
    refine aw_icmp_ge (n := 12) (tgt := 106) dX12_tellCases_9 rfl (by decide) (fun c => ?_) (fun c => ?_)
    · replace h := Ok.ift h c
      exact aw_le' (hJ_106 D (hR7 D (Ok.dn h :))) trivial
    · replace h := Ok.iff h c
      refine aw_iconst (n := 13) (v := 0) dX12_tellCases_12 rfl (by decide) ?_
      refine aw_istore_n (n := 14) (i := 2) (al' := [some (.ref 88), some (.int v1), some (.int 0)]) dX12_tellCases_13 rfl rfl rfl (by decide) rfl ?_
      exact aw_le' (hJ_14 v1 0 D h) ⟨rfl, ⟨rfl, ⟨rfl, trivial⟩⟩⟩
  refine aw_aload_n (n := 1) (i := 0) dX12_tellCases_0 rfl rfl rfl ?_
  refine aw_iconst (n := 2) (v := 0) dX12_tellCases_1 rfl (by decide) ?_
  obtain ⟨D_1, e_D_1, h⟩ := Ok.let_ h
  refine aw_putI (n := 5) (j := 52) hG.1 fl_RX12_403 (sF_88 hS) rfl e_D_1 dX12_tellCases_2 rfl ?_
  refine aw_iconst (n := 6) (v := 0) dX12_tellCases_5 rfl (by decide) ?_
  refine aw_istore_n (n := 7) (i := 1) (al' := [some (.ref 88), some (.int 0), none]) dX12_tellCases_6 rfl rfl rfl (by decide) rfl ?_
  exact aw_le' (hJ_7 0 D_1 h) ⟨rfl, ⟨rfl, trivial⟩⟩
theorem dX12_cases_0 : decode cX12_cases 0 = .ok (.aload_n 0, 1) := by decide +kernel
theorem dX12_cases_1 : decode cX12_cases 1 = .ok (.iconst 0, 1) := by decide +kernel
theorem dX12_cases_2 : decode cX12_cases 2 = .ok (.putfield 157, 3) := by decide +kernel
theorem dX12_cases_5 : decode cX12_cases 5 = .ok (.aload_n 0, 1) := by decide +kernel
theorem dX12_cases_6 : decode cX12_cases 6 = .ok (.invokevirtual 412, 3) := by decide +kernel
theorem dX12_cases_9 : decode cX12_cases 9 = .ok (.iload_n 1, 1) := by decide +kernel
theorem dX12_cases_10 : decode cX12_cases 10 = .ok (.iconst (-1), 1) := by decide +kernel
theorem dX12_cases_11 : decode cX12_cases 11 = .ok (.if_icmp .ne 10, 3) := by decide +kernel
theorem dX12_cases_14 : decode cX12_cases 14 = .ok (.aload_n 0, 1) := by decide +kernel
theorem dX12_cases_15 : decode cX12_cases 15 = .ok (.getfield 403, 3) := by decide +kernel
theorem dX12_cases_18 : decode cX12_cases 18 = .ok (.goto 31, 3) := by decide +kernel
theorem dX12_cases_21 : decode cX12_cases 21 = .ok (.iload_n 1, 1) := by decide +kernel
theorem dX12_cases_22 : decode cX12_cases 22 = .ok (.iconst 0, 1) := by decide +kernel
theorem dX12_cases_23 : decode cX12_cases 23 = .ok (.aload_n 0, 1) := by decide +kernel
theorem dX12_cases_24 : decode cX12_cases 24 = .ok (.getfield 403, 3) := by decide +kernel
theorem dX12_cases_27 : decode cX12_cases 27 = .ok (.iconst 1, 1) := by decide +kernel
theorem dX12_cases_28 : decode cX12_cases 28 = .ok (.isub, 1) := by decide +kernel
theorem dX12_cases_29 : decode cX12_cases 29 = .ok (.invokestatic 160, 3) := by decide +kernel
theorem dX12_cases_32 : decode cX12_cases 32 = .ok (.ifCond .eq 12, 3) := by decide +kernel
theorem dX12_cases_35 : decode cX12_cases 35 = .ok (.aload_n 0, 1) := by decide +kernel
theorem dX12_cases_36 : decode cX12_cases 36 = .ok (.getfield 127, 3) := by decide +kernel
theorem dX12_cases_39 : decode cX12_cases 39 = .ok (.iload_n 1, 1) := by decide +kernel
theorem dX12_cases_40 : decode cX12_cases 40 = .ok (.iaload, 1) := by decide +kernel
theorem dX12_cases_41 : decode cX12_cases 41 = .ok (.goto 8, 3) := by decide +kernel
theorem dX12_cases_44 : decode cX12_cases 44 = .ok (.aload_n 0, 1) := by decide +kernel
theorem dX12_cases_45 : decode cX12_cases 45 = .ok (.iconst 1, 1) := by decide +kernel
theorem dX12_cases_46 : decode cX12_cases 46 = .ok (.invokevirtual 290, 3) := by decide +kernel
theorem dX12_cases_49 : decode cX12_cases 49 = .ok (.ireturn, 1) := by decide +kernel
def f_X12_cases (v1 : Int32) (D : aD) : Option (Int32 × aD) :=
  aLet (pI D 88 2 0) (fun D_1 => (f_X12_tellCases D_1).bind (fun D_2 => if v1 ≠ (-1) then (aBi (f_X12_isIn v1 0 ((gI D_2 88 52) - 1) D_2) (fun y_3 D_4 => if y_3 = 0 then (aBi (f_X12_fail 1 D_4) (fun y_5 D_6 => some (y_5, D_6))) else (aGd (aIn v1 1925) (some (gI D_4 122 v1.toNatClampNeg, D_4))))) else (some (gI D_2 88 52, D_2))))
set_option maxRecDepth 100000 in
set_option maxHeartbeats 800000 in
theorem c_X12_cases {G : aG} (hG : gOK G) {shp : List aSh} (hS : aShp shp) {fr : Option Nat} {v1 : Int32} {D : aD} {K : Int32 → aD → Prop} (h : Ok2 (f_X12_cases v1 D) K) : AC G (aRm 6 0 0) M_X12_cases [.ref 88, .int v1] fr shp D (aQi shp K) := by
  replace h := Ok2.ok h
  unfold f_X12_cases at h
  refine AC.of (al := [some (.ref 88), some (.int v1)]) (r := 0) (by decide) (Nat.le_of_ble_eq_true rfl) rfl ?_
  refine aw_aload_n (n := 1) (i := 0) dX12_cases_0 rfl rfl rfl ?_
  refine aw_iconst (n := 2) (v := 0) dX12_cases_1 rfl (by decide) ?_
  obtain ⟨D_1, e_D_1, h⟩ := Ok.let_ h
  refine aw_putI (n := 5) (j := 2) hG.1 fl_RX12_157 (sF_88 hS) rfl e_D_1 dX12_cases_2 rfl ?_
  refine aw_aload_n (n := 6) (i := 0) dX12_cases_5 rfl rfl rfl ?_
  refine aw_cVv (M := M_X12_cases) (n := 9) (As := []) (rest := []) hG.1 lk_RX12_412 rfl rfl (sF_88 hS) (c_X12_tellCases hG hS (h := Ok.bind h)) (by decide) (Nat.le_of_ble_eq_true rfl) (by decide) (by decide) dX12_cases_6 rfl (fun D_2 h => ?_)
  refine aw_iload_n (n := 10) (i := 1) dX12_cases_9 rfl rfl rfl ?_
  refine aw_iconst (n := 11) (v := (-1)) dX12_cases_10 rfl (by decide) ?_
  refine aw_icmp_ne (n := 14) (tgt := 21) dX12_cases_11 rfl (by decide) (fun c => ?_) (fun c => ?_)
  · replace h := Ok.ift h c
    refine aw_iload_n (n := 22) (i := 1) dX12_cases_21 rfl rfl rfl ?_
    refine aw_iconst (n := 23) (v := 0) dX12_cases_22 rfl (by decide) ?_
    refine aw_aload_n (n := 24) (i := 0) dX12_cases_23 rfl rfl rfl ?_
    refine aw_getI (n := 27) (j := 52) hG.1 fl_RX12_403 (sF_88 hS) rfl dX12_cases_24 rfl ?_
    refine aw_iconst (n := 28) (v := 1) dX12_cases_27 rfl (by decide) ?_
    refine aw_isub (n := 29) dX12_cases_28 rfl ?_
    refine aw_cSi (M := M_X12_cases) (n := 32) (As := [.int v1, .int 0, .int ((gI D_2 88 52) - 1)]) (rest := []) lk_RX12_160 rfl rfl (c_X12_isIn hG hS (h := Ok.bi h)) (by decide) (Nat.le_of_ble_eq_true rfl) (by decide) (by decide) dX12_cases_29 rfl (fun y_3 D_4 h => ?_)
    refine aw_if_eq (n := 35) (tgt := 44) dX12_cases_32 rfl (by decide) (fun c => ?_) (fun c => ?_)
    · replace h := Ok.ift h c
      refine aw_aload_n (n := 45) (i := 0) dX12_cases_44 rfl rfl rfl ?_
      refine aw_iconst (n := 46) (v := 1) dX12_cases_45 rfl (by decide) ?_
      refine aw_cVi (M := M_X12_cases) (n := 49) (As := [.int 1]) (rest := []) hG.1 lk_RX12_290 rfl rfl (sF_88 hS) (c_X12_fail hG hS (h := Ok.bi h)) (by decide) (Nat.le_of_ble_eq_true rfl) (by decide) (by decide) dX12_cases_46 rfl (fun y_5 D_6 h => ?_)
      exact aw_iret rfl (by decide) (by decide) dX12_cases_49 ⟨_, rfl, rfl, (Ok.dn h :)⟩
    · replace h := Ok.iff h c
      refine aw_aload_n (n := 36) (i := 0) dX12_cases_35 rfl rfl rfl ?_
      refine aw_getR (n := 39) (j := 51) (r := 122) hG.1 fl_RX12_127 (sF_88 hS) rfl dX12_cases_36 rfl ?_
      refine aw_iload_n (n := 40) (i := 1) dX12_cases_39 rfl rfl rfl ?_
      obtain ⟨g_7, h⟩ := Ok.gd h
      refine aw_iaload (n := 41) hG.1 (sF_122 hS) (aIn_in g_7) dX12_cases_40 rfl ?_
      refine aw_goto (tgt := 49) dX12_cases_41 (by decide) ?_
      exact aw_iret rfl (by decide) (by decide) dX12_cases_49 ⟨_, rfl, rfl, (Ok.dn h :)⟩
  · replace h := Ok.iffn h c
    refine aw_aload_n (n := 15) (i := 0) dX12_cases_14 rfl rfl rfl ?_
    refine aw_getI (n := 18) (j := 52) hG.1 fl_RX12_403 (sF_88 hS) rfl dX12_cases_15 rfl ?_
    refine aw_goto (tgt := 49) dX12_cases_18 (by decide) ?_
    exact aw_iret rfl (by decide) (by decide) dX12_cases_49 ⟨_, rfl, rfl, (Ok.dn h :)⟩
theorem dX12_isAlike_0 : decode cX12_isAlike 0 = .ok (.iconst 0, 1) := by decide +kernel
theorem dX12_isAlike_1 : decode cX12_isAlike 1 = .ok (.istore_n 3, 1) := by decide +kernel
theorem dX12_isAlike_2 : decode cX12_isAlike 2 = .ok (.iload_n 3, 1) := by decide +kernel
theorem dX12_isAlike_3 : decode cX12_isAlike 3 = .ok (.aload_n 0, 1) := by decide +kernel
theorem dX12_isAlike_4 : decode cX12_isAlike 4 = .ok (.getfield 27, 3) := by decide +kernel
theorem dX12_isAlike_7 : decode cX12_isAlike 7 = .ok (.iconst 2, 1) := by decide +kernel
theorem dX12_isAlike_8 : decode cX12_isAlike 8 = .ok (.iaload, 1) := by decide +kernel
theorem dX12_isAlike_9 : decode cX12_isAlike 9 = .ok (.if_icmp .ge 36, 3) := by decide +kernel
theorem dX12_isAlike_12 : decode cX12_isAlike 12 = .ok (.aload_n 0, 1) := by decide +kernel
theorem dX12_isAlike_13 : decode cX12_isAlike 13 = .ok (.getfield 130, 3) := by decide +kernel
theorem dX12_isAlike_16 : decode cX12_isAlike 16 = .ok (.bipush 6, 2) := by decide +kernel
theorem dX12_isAlike_18 : decode cX12_isAlike 18 = .ok (.iload_n 1, 1) := by decide +kernel
theorem dX12_isAlike_19 : decode cX12_isAlike 19 = .ok (.imul, 1) := by decide +kernel
theorem dX12_isAlike_20 : decode cX12_isAlike 20 = .ok (.iload_n 3, 1) := by decide +kernel
theorem dX12_isAlike_21 : decode cX12_isAlike 21 = .ok (.iadd, 1) := by decide +kernel
theorem dX12_isAlike_22 : decode cX12_isAlike 22 = .ok (.iaload, 1) := by decide +kernel
theorem dX12_isAlike_23 : decode cX12_isAlike 23 = .ok (.aload_n 0, 1) := by decide +kernel
theorem dX12_isAlike_24 : decode cX12_isAlike 24 = .ok (.getfield 130, 3) := by decide +kernel
theorem dX12_isAlike_27 : decode cX12_isAlike 27 = .ok (.bipush 6, 2) := by decide +kernel
theorem dX12_isAlike_29 : decode cX12_isAlike 29 = .ok (.iload_n 2, 1) := by decide +kernel
theorem dX12_isAlike_30 : decode cX12_isAlike 30 = .ok (.imul, 1) := by decide +kernel
theorem dX12_isAlike_31 : decode cX12_isAlike 31 = .ok (.iload_n 3, 1) := by decide +kernel
theorem dX12_isAlike_32 : decode cX12_isAlike 32 = .ok (.iadd, 1) := by decide +kernel
theorem dX12_isAlike_33 : decode cX12_isAlike 33 = .ok (.iaload, 1) := by decide +kernel
theorem dX12_isAlike_34 : decode cX12_isAlike 34 = .ok (.if_icmp .eq 5, 3) := by decide +kernel
theorem dX12_isAlike_37 : decode cX12_isAlike 37 = .ok (.iconst 0, 1) := by decide +kernel
theorem dX12_isAlike_38 : decode cX12_isAlike 38 = .ok (.ireturn, 1) := by decide +kernel
theorem dX12_isAlike_39 : decode cX12_isAlike 39 = .ok (.iinc 3 1, 3) := by decide +kernel
theorem dX12_isAlike_42 : decode cX12_isAlike 42 = .ok (.goto (-40), 3) := by decide +kernel
theorem dX12_isAlike_45 : decode cX12_isAlike 45 = .ok (.iconst 1, 1) := by decide +kernel
theorem dX12_isAlike_46 : decode cX12_isAlike 46 = .ok (.ireturn, 1) := by decide +kernel
def J_X12_isAlike_37 (D : aD) : Option (Int32 × aD) :=
  some (0, D)
def J_X12_isAlike_45 (D : aD) : Option (Int32 × aD) :=
  some (1, D)
def B_X12_isAlike_2 (v1 : Int32) (v2 : Int32) (v3 : Int32) (D : aD) : Option ((Int32 × aD) ⊕ ((aD) ⊕ (aD))) :=
  aGd (aIn 2 32) (if gI D 91 (2 : Int32).toNatClampNeg ≤ v3 then (some (.inr (.inr (D)))) else (aGd (aIn ((6 * v1) + v3) 11550) (aGd (aIn ((6 * v2) + v3) 11550) (if gI D 123 ((6 * v1) + v3).toNatClampNeg = gI D 123 ((6 * v2) + v3).toNatClampNeg then (aLet (v3 + 1) (fun v3_4 => some (.inl (v3_4, D)))) else (some (.inr (.inl (D))))))))
def J_X12_isAlike_2 (v1 : Int32) (v2 : Int32) (v3 : Int32) (D : aD) : Option (Int32 × aD) :=
  (aLp (fun s => B_X12_isAlike_2 v1 v2 s.1 s.2) (v3, D)).bind (Sum.elim (fun r => J_X12_isAlike_37 r) ((fun r => J_X12_isAlike_45 r)))
def f_X12_isAlike (v1 : Int32) (v2 : Int32) (D : aD) : Option (Int32 × aD) :=
  J_X12_isAlike_2 v1 v2 0 D
set_option maxRecDepth 100000 in
set_option maxHeartbeats 800000 in
theorem c_X12_isAlike {G : aG} (hG : gOK G) {shp : List aSh} (hS : aShp shp) {fr : Option Nat} {v1 : Int32} {v2 : Int32} {D : aD} {K : Int32 → aD → Prop} (h : Ok2 (f_X12_isAlike v1 v2 D) K) : AC G (aRm 1 0 0) M_X12_isAlike [.ref 88, .int v1, .int v2] fr shp D (aQi shp K) := by
  replace h := Ok2.ok h
  unfold f_X12_isAlike at h
  refine AC.of (al := [some (.ref 88), some (.int v1), some (.int v2), none]) (r := 1) (by decide) (Nat.le_of_ble_eq_true rfl) rfl ?_
  have hJ_37 : ∀ (D : aD), Ok (J_X12_isAlike_37 D) (fun r => K r.1 r.2) → AW G (aRm 1 0 0) M_X12_isAlike fr 0 0 37 [none, none, none, none] [] shp D (aQi shp K) := by
    intro D h
    unfold J_X12_isAlike_37 at h
    refine aw_iconst (n := 38) (v := 0) dX12_isAlike_37 rfl (by decide) ?_
    exact aw_zret rfl (by decide) (by decide) (by decide) dX12_isAlike_38 ⟨_, rfl, rfl, (Ok.dn h :)⟩
  have hJ_45 : ∀ (D : aD), Ok (J_X12_isAlike_45 D) (fun r => K r.1 r.2) → AW G (aRm 1 0 0) M_X12_isAlike fr 0 0 45 [none, none, none, none] [] shp D (aQi shp K) := by
    intro D h
    unfold J_X12_isAlike_45 at h
    refine aw_iconst (n := 46) (v := 1) dX12_isAlike_45 rfl (by decide) ?_
    exact aw_zret rfl (by decide) (by decide) (by decide) dX12_isAlike_46 ⟨_, rfl, rfl, (Ok.dn h :)⟩
  have hJ_2 : ∀ (v1 : Int32) (v2 : Int32) (v3 : Int32) (D : aD), Ok (J_X12_isAlike_2 v1 v2 v3 D) (fun r => K r.1 r.2) → AW G (aRm 1 0 0) M_X12_isAlike fr 0 0 2 [some (.ref 88), some (.int v1), some (.int v2), some (.int v3)] [] shp D (aQi shp K) := by
    intro v1 v2 v3 D h
    unfold J_X12_isAlike_2 at h
    refine Ok.lp (P := fun s => AW G (aRm 1 0 0) M_X12_isAlike fr 0 0 2 [some (.ref 88), some (.int v1), some (.int v2), some (.int (s.1))] [] shp s.2 (aQi shp K)) (fun s Kb2 hL2 hR2 h => ?_) (v3, D) (Ok.bind h)
    obtain ⟨v3, D⟩ := s
    replace h : Ok (B_X12_isAlike_2 v1 v2 v3 D) Kb2 := h
    unfold B_X12_isAlike_2 at h
    refine aw_iload_n (n := 3) (i := 3) dX12_isAlike_2 rfl rfl rfl ?_
    refine aw_aload_n (n := 4) (i := 0) dX12_isAlike_3 rfl rfl rfl ?_
    refine aw_getR (n := 7) (j := 3) (r := 91) hG.1 fl_RX12_27 (sF_88 hS) rfl dX12_isAlike_4 rfl ?_
    refine aw_iconst (n := 8) (v := 2) dX12_isAlike_7 rfl (by decide) ?_
    obtain ⟨g_1, h⟩ := Ok.gd h
    refine aw_iaload (n := 9) hG.1 (sF_91 hS) (aIn_in g_1) dX12_isAlike_8 rfl ?_
    refine aw_icmp_ge (n := 12) (tgt := 45) dX12_isAlike_9 rfl (by decide) (fun c => ?_) (fun c => ?_)
    · replace h := Ok.ift h c
      exact aw_le' (hJ_45 D (Ok.er (hR2 (.inr (D)) (Ok.dn h :)) :)) trivial
    · replace h := Ok.iff h c
      refine aw_aload_n (n := 13) (i := 0) dX12_isAlike_12 rfl rfl rfl ?_
      refine aw_getR (n := 16) (j := 53) (r := 123) hG.1 fl_RX12_130 (sF_88 hS) rfl dX12_isAlike_13 rfl ?_
      refine aw_bipush (n := 18) (v := 6) dX12_isAlike_16 rfl (by decide) ?_
      refine aw_iload_n (n := 19) (i := 1) dX12_isAlike_18 rfl rfl rfl ?_
      refine aw_imul (n := 20) dX12_isAlike_19 rfl ?_
      refine aw_iload_n (n := 21) (i := 3) dX12_isAlike_20 rfl rfl rfl ?_
      refine aw_iadd (n := 22) dX12_isAlike_21 rfl ?_
      obtain ⟨g_2, h⟩ := Ok.gd h
      refine aw_iaload (n := 23) hG.1 (sF_123 hS) (aIn_in g_2) dX12_isAlike_22 rfl ?_
      refine aw_aload_n (n := 24) (i := 0) dX12_isAlike_23 rfl rfl rfl ?_
      refine aw_getR (n := 27) (j := 53) (r := 123) hG.1 fl_RX12_130 (sF_88 hS) rfl dX12_isAlike_24 rfl ?_
      refine aw_bipush (n := 29) (v := 6) dX12_isAlike_27 rfl (by decide) ?_
      refine aw_iload_n (n := 30) (i := 2) dX12_isAlike_29 rfl rfl rfl ?_
      refine aw_imul (n := 31) dX12_isAlike_30 rfl ?_
      refine aw_iload_n (n := 32) (i := 3) dX12_isAlike_31 rfl rfl rfl ?_
      refine aw_iadd (n := 33) dX12_isAlike_32 rfl ?_
      obtain ⟨g_3, h⟩ := Ok.gd h
      refine aw_iaload (n := 34) hG.1 (sF_123 hS) (aIn_in g_3) dX12_isAlike_33 rfl ?_
      refine aw_icmp_eq (n := 37) (tgt := 39) dX12_isAlike_34 rfl (by decide) (fun c => ?_) (fun c => ?_)
      · replace h := Ok.ift h c
        obtain ⟨v3_4, e_v3_4, h⟩ := Ok.let_ h
        refine aw_iinc (n := 42) (al' := [some (.ref 88), some (.int v1), some (.int v2), some (.int v3_4)]) dX12_isAlike_39 rfl rfl e_v3_4 (by decide) rfl ?_
        refine aw_goto (tgt := 2) dX12_isAlike_42 (by decide) ?_
        exact aw_le' (hL2 (v3_4, D) (Ok.dn h :)) ⟨rfl, ⟨rfl, ⟨rfl, ⟨rfl, trivial⟩⟩⟩⟩
      · replace h := Ok.iff h c
        exact aw_le' (hJ_37 D (Ok.el (hR2 (.inl (D)) (Ok.dn h :)) :)) trivial
  refine aw_iconst (n := 1) (v := 0) dX12_isAlike_0 rfl (by decide) ?_
  refine aw_istore_n (n := 2) (i := 3) (al' := [some (.ref 88), some (.int v1), some (.int v2), some (.int 0)]) dX12_isAlike_1 rfl rfl rfl (by decide) rfl ?_
  exact aw_le' (hJ_2 v1 v2 0 D h) ⟨rfl, ⟨rfl, ⟨rfl, ⟨rfl, trivial⟩⟩⟩⟩
theorem dX12_groupAt_0 : decode cX12_groupAt 0 = .ok (.iconst 0, 1) := by decide +kernel
theorem dX12_groupAt_1 : decode cX12_groupAt 1 = .ok (.istore_n 3, 1) := by decide +kernel
theorem dX12_groupAt_2 : decode cX12_groupAt 2 = .ok (.iload_n 3, 1) := by decide +kernel
theorem dX12_groupAt_3 : decode cX12_groupAt 3 = .ok (.aload_n 0, 1) := by decide +kernel
theorem dX12_groupAt_4 : decode cX12_groupAt 4 = .ok (.getfield 403, 3) := by decide +kernel
theorem dX12_groupAt_7 : decode cX12_groupAt 7 = .ok (.if_icmp .ge 100, 3) := by decide +kernel
theorem dX12_groupAt_10 : decode cX12_groupAt 10 = .ok (.aload_n 0, 1) := by decide +kernel
theorem dX12_groupAt_11 : decode cX12_groupAt 11 = .ok (.getfield 127, 3) := by decide +kernel
theorem dX12_groupAt_14 : decode cX12_groupAt 14 = .ok (.iload_n 3, 1) := by decide +kernel
theorem dX12_groupAt_15 : decode cX12_groupAt 15 = .ok (.iaload, 1) := by decide +kernel
theorem dX12_groupAt_16 : decode cX12_groupAt 16 = .ok (.sipush 1000, 3) := by decide +kernel
theorem dX12_groupAt_19 : decode cX12_groupAt 19 = .ok (.idiv, 1) := by decide +kernel
theorem dX12_groupAt_20 : decode cX12_groupAt 20 = .ok (.istore 4, 2) := by decide +kernel
theorem dX12_groupAt_22 : decode cX12_groupAt 22 = .ok (.aload_n 0, 1) := by decide +kernel
theorem dX12_groupAt_23 : decode cX12_groupAt 23 = .ok (.iload 4, 2) := by decide +kernel
theorem dX12_groupAt_25 : decode cX12_groupAt 25 = .ok (.aload_n 0, 1) := by decide +kernel
theorem dX12_groupAt_26 : decode cX12_groupAt 26 = .ok (.getfield 127, 3) := by decide +kernel
theorem dX12_groupAt_29 : decode cX12_groupAt 29 = .ok (.iload_n 3, 1) := by decide +kernel
theorem dX12_groupAt_30 : decode cX12_groupAt 30 = .ok (.iaload, 1) := by decide +kernel
theorem dX12_groupAt_31 : decode cX12_groupAt 31 = .ok (.sipush 1000, 3) := by decide +kernel
theorem dX12_groupAt_34 : decode cX12_groupAt 34 = .ok (.irem, 1) := by decide +kernel
theorem dX12_groupAt_35 : decode cX12_groupAt 35 = .ok (.invokevirtual 406, 3) := by decide +kernel
theorem dX12_groupAt_38 : decode cX12_groupAt 38 = .ok (.pop, 1) := by decide +kernel
theorem dX12_groupAt_39 : decode cX12_groupAt 39 = .ok (.aload_n 0, 1) := by decide +kernel
theorem dX12_groupAt_40 : decode cX12_groupAt 40 = .ok (.aload_n 0, 1) := by decide +kernel
theorem dX12_groupAt_41 : decode cX12_groupAt 41 = .ok (.getfield 60, 3) := by decide +kernel
theorem dX12_groupAt_44 : decode cX12_groupAt 44 = .ok (.iload_n 1, 1) := by decide +kernel
theorem dX12_groupAt_45 : decode cX12_groupAt 45 = .ok (.iaload, 1) := by decide +kernel
theorem dX12_groupAt_46 : decode cX12_groupAt 46 = .ok (.iload_n 2, 1) := by decide +kernel
theorem dX12_groupAt_47 : decode cX12_groupAt 47 = .ok (.iload 4, 2) := by decide +kernel
theorem dX12_groupAt_49 : decode cX12_groupAt 49 = .ok (.invokevirtual 339, 3) := by decide +kernel
theorem dX12_groupAt_52 : decode cX12_groupAt 52 = .ok (.aload_n 0, 1) := by decide +kernel
theorem dX12_groupAt_53 : decode cX12_groupAt 53 = .ok (.aload_n 0, 1) := by decide +kernel
theorem dX12_groupAt_54 : decode cX12_groupAt 54 = .ok (.getfield 27, 3) := by decide +kernel
theorem dX12_groupAt_57 : decode cX12_groupAt 57 = .ok (.iconst 4, 1) := by decide +kernel
theorem dX12_groupAt_58 : decode cX12_groupAt 58 = .ok (.iaload, 1) := by decide +kernel
theorem dX12_groupAt_59 : decode cX12_groupAt 59 = .ok (.putfield 303, 3) := by decide +kernel
theorem dX12_groupAt_62 : decode cX12_groupAt 62 = .ok (.iconst 0, 1) := by decide +kernel
theorem dX12_groupAt_63 : decode cX12_groupAt 63 = .ok (.istore 5, 2) := by decide +kernel
theorem dX12_groupAt_65 : decode cX12_groupAt 65 = .ok (.iload 5, 2) := by decide +kernel
theorem dX12_groupAt_67 : decode cX12_groupAt 67 = .ok (.aload_n 0, 1) := by decide +kernel
theorem dX12_groupAt_68 : decode cX12_groupAt 68 = .ok (.getfield 27, 3) := by decide +kernel
theorem dX12_groupAt_71 : decode cX12_groupAt 71 = .ok (.iconst 2, 1) := by decide +kernel
theorem dX12_groupAt_72 : decode cX12_groupAt 72 = .ok (.iaload, 1) := by decide +kernel
theorem dX12_groupAt_73 : decode cX12_groupAt 73 = .ok (.if_icmp .ge 28, 3) := by decide +kernel
theorem dX12_groupAt_76 : decode cX12_groupAt 76 = .ok (.aload_n 0, 1) := by decide +kernel
theorem dX12_groupAt_77 : decode cX12_groupAt 77 = .ok (.getfield 130, 3) := by decide +kernel
theorem dX12_groupAt_80 : decode cX12_groupAt 80 = .ok (.bipush 6, 2) := by decide +kernel
theorem dX12_groupAt_82 : decode cX12_groupAt 82 = .ok (.iload_n 3, 1) := by decide +kernel
theorem dX12_groupAt_83 : decode cX12_groupAt 83 = .ok (.imul, 1) := by decide +kernel
theorem dX12_groupAt_84 : decode cX12_groupAt 84 = .ok (.iload 5, 2) := by decide +kernel
theorem dX12_groupAt_86 : decode cX12_groupAt 86 = .ok (.iadd, 1) := by decide +kernel
theorem dX12_groupAt_87 : decode cX12_groupAt 87 = .ok (.aload_n 0, 1) := by decide +kernel
theorem dX12_groupAt_88 : decode cX12_groupAt 88 = .ok (.getfield 94, 3) := by decide +kernel
theorem dX12_groupAt_91 : decode cX12_groupAt 91 = .ok (.iload 5, 2) := by decide +kernel
theorem dX12_groupAt_93 : decode cX12_groupAt 93 = .ok (.iaload, 1) := by decide +kernel
theorem dX12_groupAt_94 : decode cX12_groupAt 94 = .ok (.iastore, 1) := by decide +kernel
theorem dX12_groupAt_95 : decode cX12_groupAt 95 = .ok (.iinc 5 1, 3) := by decide +kernel
theorem dX12_groupAt_98 : decode cX12_groupAt 98 = .ok (.goto (-33), 3) := by decide +kernel
theorem dX12_groupAt_101 : decode cX12_groupAt 101 = .ok (.iinc 3 1, 3) := by decide +kernel
theorem dX12_groupAt_104 : decode cX12_groupAt 104 = .ok (.goto (-102), 3) := by decide +kernel
theorem dX12_groupAt_107 : decode cX12_groupAt 107 = .ok (.iconst 0, 1) := by decide +kernel
theorem dX12_groupAt_108 : decode cX12_groupAt 108 = .ok (.istore_n 3, 1) := by decide +kernel
theorem dX12_groupAt_109 : decode cX12_groupAt 109 = .ok (.iconst 0, 1) := by decide +kernel
theorem dX12_groupAt_110 : decode cX12_groupAt 110 = .ok (.istore 4, 2) := by decide +kernel
theorem dX12_groupAt_112 : decode cX12_groupAt 112 = .ok (.iload 4, 2) := by decide +kernel
theorem dX12_groupAt_114 : decode cX12_groupAt 114 = .ok (.aload_n 0, 1) := by decide +kernel
theorem dX12_groupAt_115 : decode cX12_groupAt 115 = .ok (.getfield 403, 3) := by decide +kernel
theorem dX12_groupAt_118 : decode cX12_groupAt 118 = .ok (.iload_n 3, 1) := by decide +kernel
theorem dX12_groupAt_119 : decode cX12_groupAt 119 = .ok (.isub, 1) := by decide +kernel
theorem dX12_groupAt_120 : decode cX12_groupAt 120 = .ok (.if_icmp .ge 61, 3) := by decide +kernel
theorem dX12_groupAt_123 : decode cX12_groupAt 123 = .ok (.iconst 1, 1) := by decide +kernel
theorem dX12_groupAt_124 : decode cX12_groupAt 124 = .ok (.istore 5, 2) := by decide +kernel
theorem dX12_groupAt_126 : decode cX12_groupAt 126 = .ok (.iload 4, 2) := by decide +kernel
theorem dX12_groupAt_128 : decode cX12_groupAt 128 = .ok (.iconst 1, 1) := by decide +kernel
theorem dX12_groupAt_129 : decode cX12_groupAt 129 = .ok (.iadd, 1) := by decide +kernel
theorem dX12_groupAt_130 : decode cX12_groupAt 130 = .ok (.istore 6, 2) := by decide +kernel
theorem dX12_groupAt_132 : decode cX12_groupAt 132 = .ok (.iload 6, 2) := by decide +kernel
theorem dX12_groupAt_134 : decode cX12_groupAt 134 = .ok (.aload_n 0, 1) := by decide +kernel
theorem dX12_groupAt_135 : decode cX12_groupAt 135 = .ok (.getfield 403, 3) := by decide +kernel
theorem dX12_groupAt_138 : decode cX12_groupAt 138 = .ok (.if_icmp .ge 30, 3) := by decide +kernel
theorem dX12_groupAt_141 : decode cX12_groupAt 141 = .ok (.iload 5, 2) := by decide +kernel
theorem dX12_groupAt_143 : decode cX12_groupAt 143 = .ok (.aload_n 0, 1) := by decide +kernel
theorem dX12_groupAt_144 : decode cX12_groupAt 144 = .ok (.iload 4, 2) := by decide +kernel
theorem dX12_groupAt_146 : decode cX12_groupAt 146 = .ok (.iload 6, 2) := by decide +kernel
theorem dX12_groupAt_148 : decode cX12_groupAt 148 = .ok (.invokevirtual 415, 3) := by decide +kernel
theorem dX12_groupAt_151 : decode cX12_groupAt 151 = .ok (.ifCond .eq 7, 3) := by decide +kernel
theorem dX12_groupAt_154 : decode cX12_groupAt 154 = .ok (.iconst 1, 1) := by decide +kernel
theorem dX12_groupAt_155 : decode cX12_groupAt 155 = .ok (.goto 4, 3) := by decide +kernel
theorem dX12_groupAt_158 : decode cX12_groupAt 158 = .ok (.iconst 0, 1) := by decide +kernel
theorem dX12_groupAt_159 : decode cX12_groupAt 159 = .ok (.iadd, 1) := by decide +kernel
theorem dX12_groupAt_160 : decode cX12_groupAt 160 = .ok (.istore 5, 2) := by decide +kernel
theorem dX12_groupAt_162 : decode cX12_groupAt 162 = .ok (.iinc 6 1, 3) := by decide +kernel
theorem dX12_groupAt_165 : decode cX12_groupAt 165 = .ok (.goto (-33), 3) := by decide +kernel
theorem dX12_groupAt_168 : decode cX12_groupAt 168 = .ok (.iload_n 3, 1) := by decide +kernel
theorem dX12_groupAt_169 : decode cX12_groupAt 169 = .ok (.iload 5, 2) := by decide +kernel
theorem dX12_groupAt_171 : decode cX12_groupAt 171 = .ok (.invokestatic 326, 3) := by decide +kernel
theorem dX12_groupAt_174 : decode cX12_groupAt 174 = .ok (.istore_n 3, 1) := by decide +kernel
theorem dX12_groupAt_175 : decode cX12_groupAt 175 = .ok (.iinc 4 1, 3) := by decide +kernel
theorem dX12_groupAt_178 : decode cX12_groupAt 178 = .ok (.goto (-66), 3) := by decide +kernel
theorem dX12_groupAt_181 : decode cX12_groupAt 181 = .ok (.iload_n 3, 1) := by decide +kernel
theorem dX12_groupAt_182 : decode cX12_groupAt 182 = .ok (.ireturn, 1) := by decide +kernel
def J_X12_groupAt_181 (v3 : Int32) (D : aD) : Option (Int32 × aD) :=
  some (v3, D)
def J_X12_groupAt_168 (v3 : Int32) (v4 : Int32) (v5 : Int32) (D : aD) : Option ((Int32 × Int32 × aD) ⊕ ((Int32 × aD))) :=
  aLet (if v3 < v5 then v5 else v3) (fun v3_2 => aLet (v4 + 1) (fun v4_3 => some (.inl (v3_2, v4_3, D))))
def B_X12_groupAt_132 (v3 : Int32) (v4 : Int32) (v5 : Int32) (v6 : Int32) (D : aD) : Option ((Int32 × Int32 × aD) ⊕ ((Int32 × aD))) :=
  if gI D 88 52 ≤ v6 then (some (.inr (v5, D))) else (aBi (f_X12_isAlike v4 v6 D) (fun y_4 D_5 => if y_4 = 0 then (aLet (v5 + 0) (fun v5_6 => aLet (v6 + 1) (fun v6_7 => some (.inl (v5_6, v6_7, D_5))))) else (aLet (v5 + 1) (fun v5_8 => aLet (v6 + 1) (fun v6_9 => some (.inl (v5_8, v6_9, D_5)))))))
def J_X12_groupAt_132 (v3 : Int32) (v4 : Int32) (v5 : Int32) (v6 : Int32) (D : aD) : Option ((Int32 × Int32 × aD) ⊕ ((Int32 × aD))) :=
  (aLp (fun s => B_X12_groupAt_132 v3 v4 s.1 s.2.1 s.2.2) (v5, v6, D)).bind (fun r => J_X12_groupAt_168 v3 v4 (r.1) r.2)
def B_X12_groupAt_112 (v3 : Int32) (v4 : Int32) (D : aD) : Option ((Int32 × Int32 × aD) ⊕ ((Int32 × aD))) :=
  if (gI D 88 52) - v3 ≤ v4 then (some (.inr (v3, D))) else (aLet (v4 + 1) (fun v6_1 => J_X12_groupAt_132 v3 v4 1 v6_1 D))
def J_X12_groupAt_112 (v3 : Int32) (v4 : Int32) (D : aD) : Option (Int32 × aD) :=
  (aLp (fun s => B_X12_groupAt_112 s.1 s.2.1 s.2.2) (v3, v4, D)).bind (fun r => J_X12_groupAt_181 (r.1) r.2)
def J_X12_groupAt_107 (D : aD) : Option (Int32 × aD) :=
  J_X12_groupAt_112 0 0 D
def J_X12_groupAt_101 (v1 : Int32) (v2 : Int32) (v3 : Int32) (D : aD) : Option ((Int32 × aD) ⊕ ((aD))) :=
  aLet (v3 + 1) (fun v3_19 => some (.inl (v3_19, D)))
def B_X12_groupAt_65 (v1 : Int32) (v2 : Int32) (v3 : Int32) (v5 : Int32) (D : aD) : Option ((Int32 × aD) ⊕ ((aD))) :=
  aGd (aIn 2 32) (if gI D 91 (2 : Int32).toNatClampNeg ≤ v5 then (some (.inr D)) else (aGd (aIn v5 6) (aGd (aIn ((6 * v3) + v5) 11550) (aLet (pI D 123 ((6 * v3) + v5).toNatClampNeg (gI D 111 v5.toNatClampNeg)) (fun D_23 => aLet (v5 + 1) (fun v5_24 => some (.inl (v5_24, D_23))))))))
def J_X12_groupAt_65 (v1 : Int32) (v2 : Int32) (v3 : Int32) (v5 : Int32) (D : aD) : Option ((Int32 × aD) ⊕ ((aD))) :=
  (aLp (fun s => B_X12_groupAt_65 v1 v2 v3 s.1 s.2) (v5, D)).bind (fun r => J_X12_groupAt_101 v1 v2 v3 r)
def B_X12_groupAt_2 (v1 : Int32) (v2 : Int32) (v3 : Int32) (D : aD) : Option ((Int32 × aD) ⊕ ((aD))) :=
  if gI D 88 52 ≤ v3 then (some (.inr D)) else (aGd (aIn v3 1925) (aLet ((gI D 122 v3.toNatClampNeg) / 1000) (fun v4_11 => aGd (aIn v3 1925) (aBi (f_X12_isCase v4_11 ((gI D 122 v3.toNatClampNeg) - (gI D 122 v3.toNatClampNeg) / 1000 * 1000) D) (fun y_13 D_14 => aGd (aIn v1 10) ((f_X12_tellPlace (gI D_14 102 v1.toNatClampNeg) v2 v4_11 D_14).bind (fun D_16 => aGd (aIn 4 32) (aLet (pI D_16 88 30 (gI D_16 91 (4 : Int32).toNatClampNeg)) (fun D_18 => J_X12_groupAt_65 v1 v2 v3 0 D_18)))))))))
def J_X12_groupAt_2 (v1 : Int32) (v2 : Int32) (v3 : Int32) (D : aD) : Option (Int32 × aD) :=
  (aLp (fun s => B_X12_groupAt_2 v1 v2 s.1 s.2) (v3, D)).bind (fun r => J_X12_groupAt_107 r)
def f_X12_groupAt (v1 : Int32) (v2 : Int32) (D : aD) : Option (Int32 × aD) :=
  J_X12_groupAt_2 v1 v2 0 D
set_option maxRecDepth 100000 in
set_option maxHeartbeats 800000 in
theorem c_X12_groupAt {G : aG} (hG : gOK G) {shp : List aSh} (hS : aShp shp) {fr : Option Nat} {v1 : Int32} {v2 : Int32} {D : aD} {K : Int32 → aD → Prop} (h : Ok2 (f_X12_groupAt v1 v2 D) K) : AC G (aRm 4 0 0) M_X12_groupAt [.ref 88, .int v1, .int v2] fr shp D (aQi shp K) := by
  replace h := Ok2.ok h
  unfold f_X12_groupAt at h
  refine AC.of (al := [some (.ref 88), some (.int v1), some (.int v2), none, none, none, none]) (r := 4) (by decide) (Nat.le_of_ble_eq_true rfl) rfl ?_
  have hJ_181 : ∀ (v3 : Int32) (D : aD), Ok (J_X12_groupAt_181 v3 D) (fun r => K r.1 r.2) → AW G (aRm 4 0 0) M_X12_groupAt fr 0 0 181 [none, none, none, some (.int v3), none, none, none] [] shp D (aQi shp K) := by
    intro v3 D h
    unfold J_X12_groupAt_181 at h
    refine aw_iload_n (n := 182) (i := 3) dX12_groupAt_181 rfl rfl rfl ?_
    exact aw_iret rfl (by decide) (by decide) dX12_groupAt_182 ⟨_, rfl, rfl, (Ok.dn h :)⟩
  have hJ_112 : ∀ (v3 : Int32) (v4 : Int32) (D : aD), Ok (J_X12_groupAt_112 v3 v4 D) (fun r => K r.1 r.2) → AW G (aRm 4 0 0) M_X12_groupAt fr 0 0 112 [some (.ref 88), none, none, some (.int v3), some (.int v4), none, none] [] shp D (aQi shp K) := by
    intro v3 v4 D h
    unfold J_X12_groupAt_112 at h
    refine Ok.lp (P := fun s => AW G (aRm 4 0 0) M_X12_groupAt fr 0 0 112 [some (.ref 88), none, none, some (.int (s.1)), some (.int (s.2.1)), none, none] [] shp s.2.2 (aQi shp K)) (fun s Kb112 hL112 hR112 h => ?_) (v3, v4, D) (Ok.bind h)
    obtain ⟨v3, v4, D⟩ := s
    replace h : Ok (B_X12_groupAt_112 v3 v4 D) Kb112 := h
    unfold B_X12_groupAt_112 at h
    have hJ_168 : ∀ (v3 : Int32) (v4 : Int32) (v5 : Int32) (D : aD), Ok (J_X12_groupAt_168 v3 v4 v5 D) Kb112 → AW G (aRm 4 0 0) M_X12_groupAt fr 0 0 168 [some (.ref 88), none, none, some (.int v3), some (.int v4), some (.int v5), none] [] shp D (aQi shp K) := by
      intro v3 v4 v5 D h
      unfold J_X12_groupAt_168 at h
      refine aw_iload_n (n := 169) (i := 3) dX12_groupAt_168 rfl rfl rfl ?_
      refine aw_iload (n := 171) (i := 5) dX12_groupAt_169 rfl rfl ?_
      refine aw_max (M := M_X12_groupAt) (n := 174) lm_RX12_326 mm_max.1 mm_max.2.1 mm_max.2.2 (by decide) (Nat.le_of_ble_eq_true rfl) (by decide) (by decide) dX12_groupAt_171 rfl ?_
      obtain ⟨v3_2, e_v3_2, h⟩ := Ok.let_ h
      refine aw_istore_n (n := 175) (i := 3) (al' := [some (.ref 88), none, none, some (.int v3_2), some (.int v4), some (.int v5), none]) dX12_groupAt_174 rfl rfl e_v3_2 (by decide) rfl ?_
      obtain ⟨v4_3, e_v4_3, h⟩ := Ok.let_ h
      refine aw_iinc (n := 178) (al' := [some (.ref 88), none, none, some (.int v3_2), some (.int v4_3), some (.int v5), none]) dX12_groupAt_175 rfl rfl e_v4_3 (by decide) rfl ?_
      refine aw_goto (tgt := 112) dX12_groupAt_178 (by decide) ?_
      exact aw_le' (hL112 (v3_2, v4_3, D) (Ok.dn h :)) ⟨rfl, ⟨rfl, ⟨rfl, trivial⟩⟩⟩
    have hJ_132 : ∀ (v3 : Int32) (v4 : Int32) (v5 : Int32) (v6 : Int32) (D : aD), Ok (J_X12_groupAt_132 v3 v4 v5 v6 D) Kb112 → AW G (aRm 4 0 0) M_X12_groupAt fr 0 0 132 [some (.ref 88), none, none, some (.int v3), some (.int v4), some (.int v5), some (.int v6)] [] shp D (aQi shp K) := by
      intro v3 v4 v5 v6 D h
      unfold J_X12_groupAt_132 at h
      refine Ok.lp (P := fun s => AW G (aRm 4 0 0) M_X12_groupAt fr 0 0 132 [some (.ref 88), none, none, some (.int v3), some (.int v4), some (.int (s.1)), some (.int (s.2.1))] [] shp s.2.2 (aQi shp K)) (fun s Kb132 hL132 hR132 h => ?_) (v5, v6, D) (Ok.bind h)
      obtain ⟨v5, v6, D⟩ := s
      replace h : Ok (B_X12_groupAt_132 v3 v4 v5 v6 D) Kb132 := h
      unfold B_X12_groupAt_132 at h
      refine aw_iload (n := 134) (i := 6) dX12_groupAt_132 rfl rfl ?_
      refine aw_aload_n (n := 135) (i := 0) dX12_groupAt_134 rfl rfl rfl ?_
      refine aw_getI (n := 138) (j := 52) hG.1 fl_RX12_403 (sF_88 hS) rfl dX12_groupAt_135 rfl ?_
      refine aw_icmp_ge (n := 141) (tgt := 168) dX12_groupAt_138 rfl (by decide) (fun c => ?_) (fun c => ?_)
      · replace h := Ok.ift h c
        exact aw_le' (hJ_168 v3 v4 v5 D (hR132 (v5, D) (Ok.dn h :))) ⟨rfl, ⟨rfl, ⟨rfl, ⟨rfl, trivial⟩⟩⟩⟩
      · replace h := Ok.iff h c
        refine aw_iload (n := 143) (i := 5) dX12_groupAt_141 rfl rfl ?_
        refine aw_aload_n (n := 144) (i := 0) dX12_groupAt_143 rfl rfl rfl ?_
        refine aw_iload (n := 146) (i := 4) dX12_groupAt_144 rfl rfl ?_
        refine aw_iload (n := 148) (i := 6) dX12_groupAt_146 rfl rfl ?_
        refine aw_cVi (M := M_X12_groupAt) (n := 151) (As := [.int v4, .int v6]) (rest := [.int v5]) hG.1 lk_RX12_415 rfl rfl (sF_88 hS) (c_X12_isAlike hG hS (h := Ok.bi h)) (by decide) (Nat.le_of_ble_eq_true rfl) (by decide) (by decide) dX12_groupAt_148 rfl (fun y_4 D_5 h => ?_)
        refine aw_if_eq (n := 154) (tgt := 158) dX12_groupAt_151 rfl (by decide) (fun c => ?_) (fun c => ?_)
        · replace h := Ok.ift h c
          refine aw_iconst (n := 159) (v := 0) dX12_groupAt_158 rfl (by decide) ?_
          refine aw_iadd (n := 160) dX12_groupAt_159 rfl ?_
          obtain ⟨v5_6, e_v5_6, h⟩ := Ok.let_ h
          refine aw_istore (n := 162) (i := 5) (al' := [some (.ref 88), none, none, some (.int v3), some (.int v4), some (.int v5_6), some (.int v6)]) dX12_groupAt_160 rfl e_v5_6 (by decide) rfl ?_
          obtain ⟨v6_7, e_v6_7, h⟩ := Ok.let_ h
          refine aw_iinc (n := 165) (al' := [some (.ref 88), none, none, some (.int v3), some (.int v4), some (.int v5_6), some (.int v6_7)]) dX12_groupAt_162 rfl rfl e_v6_7 (by decide) rfl ?_
          refine aw_goto (tgt := 132) dX12_groupAt_165 (by decide) ?_
          exact aw_le' (hL132 (v5_6, v6_7, D_5) (Ok.dn h :)) ⟨rfl, ⟨rfl, ⟨rfl, ⟨rfl, ⟨rfl, trivial⟩⟩⟩⟩⟩
        · replace h := Ok.iff h c
          refine aw_iconst (n := 155) (v := 1) dX12_groupAt_154 rfl (by decide) ?_
          refine aw_goto (tgt := 159) dX12_groupAt_155 (by decide) ?_
          refine aw_iadd (n := 160) dX12_groupAt_159 rfl ?_
          obtain ⟨v5_8, e_v5_8, h⟩ := Ok.let_ h
          refine aw_istore (n := 162) (i := 5) (al' := [some (.ref 88), none, none, some (.int v3), some (.int v4), some (.int v5_8), some (.int v6)]) dX12_groupAt_160 rfl e_v5_8 (by decide) rfl ?_
          obtain ⟨v6_9, e_v6_9, h⟩ := Ok.let_ h
          refine aw_iinc (n := 165) (al' := [some (.ref 88), none, none, some (.int v3), some (.int v4), some (.int v5_8), some (.int v6_9)]) dX12_groupAt_162 rfl rfl e_v6_9 (by decide) rfl ?_
          refine aw_goto (tgt := 132) dX12_groupAt_165 (by decide) ?_
          exact aw_le' (hL132 (v5_8, v6_9, D_5) (Ok.dn h :)) ⟨rfl, ⟨rfl, ⟨rfl, ⟨rfl, ⟨rfl, trivial⟩⟩⟩⟩⟩
    refine aw_iload (n := 114) (i := 4) dX12_groupAt_112 rfl rfl ?_
    refine aw_aload_n (n := 115) (i := 0) dX12_groupAt_114 rfl rfl rfl ?_
    refine aw_getI (n := 118) (j := 52) hG.1 fl_RX12_403 (sF_88 hS) rfl dX12_groupAt_115 rfl ?_
    refine aw_iload_n (n := 119) (i := 3) dX12_groupAt_118 rfl rfl rfl ?_
    refine aw_isub (n := 120) dX12_groupAt_119 rfl ?_
    refine aw_icmp_ge (n := 123) (tgt := 181) dX12_groupAt_120 rfl (by decide) (fun c => ?_) (fun c => ?_)
    · replace h := Ok.ift h c
      exact aw_le' (hJ_181 v3 D (hR112 (v3, D) (Ok.dn h :))) ⟨rfl, trivial⟩
    · replace h := Ok.iff h c
      refine aw_iconst (n := 124) (v := 1) dX12_groupAt_123 rfl (by decide) ?_
      refine aw_istore (n := 126) (i := 5) (al' := [some (.ref 88), none, none, some (.int v3), some (.int v4), some (.int 1), none]) dX12_groupAt_124 rfl rfl (by decide) rfl ?_
      refine aw_iload (n := 128) (i := 4) dX12_groupAt_126 rfl rfl ?_
      refine aw_iconst (n := 129) (v := 1) dX12_groupAt_128 rfl (by decide) ?_
      refine aw_iadd (n := 130) dX12_groupAt_129 rfl ?_
      obtain ⟨v6_1, e_v6_1, h⟩ := Ok.let_ h
      refine aw_istore (n := 132) (i := 6) (al' := [some (.ref 88), none, none, some (.int v3), some (.int v4), some (.int 1), some (.int v6_1)]) dX12_groupAt_130 rfl e_v6_1 (by decide) rfl ?_
      exact aw_le' (hJ_132 v3 v4 1 v6_1 D h) ⟨rfl, ⟨rfl, ⟨rfl, ⟨rfl, ⟨rfl, trivial⟩⟩⟩⟩⟩
  have hJ_107 : ∀ (D : aD), Ok (J_X12_groupAt_107 D) (fun r => K r.1 r.2) → AW G (aRm 4 0 0) M_X12_groupAt fr 0 0 107 [some (.ref 88), none, none, none, none, none, none] [] shp D (aQi shp K) := by
    intro D h
    unfold J_X12_groupAt_107 at h
    refine aw_iconst (n := 108) (v := 0) dX12_groupAt_107 rfl (by decide) ?_
    refine aw_istore_n (n := 109) (i := 3) (al' := [some (.ref 88), none, none, some (.int 0), none, none, none]) dX12_groupAt_108 rfl rfl rfl (by decide) rfl ?_
    refine aw_iconst (n := 110) (v := 0) dX12_groupAt_109 rfl (by decide) ?_
    refine aw_istore (n := 112) (i := 4) (al' := [some (.ref 88), none, none, some (.int 0), some (.int 0), none, none]) dX12_groupAt_110 rfl rfl (by decide) rfl ?_
    exact aw_le' (hJ_112 0 0 D h) ⟨rfl, ⟨rfl, ⟨rfl, trivial⟩⟩⟩
  have hJ_2 : ∀ (v1 : Int32) (v2 : Int32) (v3 : Int32) (D : aD), Ok (J_X12_groupAt_2 v1 v2 v3 D) (fun r => K r.1 r.2) → AW G (aRm 4 0 0) M_X12_groupAt fr 0 0 2 [some (.ref 88), some (.int v1), some (.int v2), some (.int v3), none, none, none] [] shp D (aQi shp K) := by
    intro v1 v2 v3 D h
    unfold J_X12_groupAt_2 at h
    refine Ok.lp (P := fun s => AW G (aRm 4 0 0) M_X12_groupAt fr 0 0 2 [some (.ref 88), some (.int v1), some (.int v2), some (.int (s.1)), none, none, none] [] shp s.2 (aQi shp K)) (fun s Kb2 hL2 hR2 h => ?_) (v3, D) (Ok.bind h)
    obtain ⟨v3, D⟩ := s
    replace h : Ok (B_X12_groupAt_2 v1 v2 v3 D) Kb2 := h
    unfold B_X12_groupAt_2 at h
    have hJ_101 : ∀ (v3 : Int32) (D : aD), Ok (J_X12_groupAt_101 v1 v2 v3 D) Kb2 → AW G (aRm 4 0 0) M_X12_groupAt fr 0 0 101 [some (.ref 88), some (.int v1), some (.int v2), some (.int v3), none, none, none] [] shp D (aQi shp K) := by
      intro v3 D h
      unfold J_X12_groupAt_101 at h
      obtain ⟨v3_19, e_v3_19, h⟩ := Ok.let_ h
      refine aw_iinc (n := 104) (al' := [some (.ref 88), some (.int v1), some (.int v2), some (.int v3_19), none, none, none]) dX12_groupAt_101 rfl rfl e_v3_19 (by decide) rfl ?_
      refine aw_goto (tgt := 2) dX12_groupAt_104 (by decide) ?_
      exact aw_le' (hL2 (v3_19, D) (Ok.dn h :)) ⟨rfl, ⟨rfl, ⟨rfl, ⟨rfl, trivial⟩⟩⟩⟩
    have hJ_65 : ∀ (v3 : Int32) (v5 : Int32) (D : aD), Ok (J_X12_groupAt_65 v1 v2 v3 v5 D) Kb2 → AW G (aRm 4 0 0) M_X12_groupAt fr 0 0 65 [some (.ref 88), some (.int v1), some (.int v2), some (.int v3), none, some (.int v5), none] [] shp D (aQi shp K) := by
      intro v3 v5 D h
      unfold J_X12_groupAt_65 at h
      refine Ok.lp (P := fun s => AW G (aRm 4 0 0) M_X12_groupAt fr 0 0 65 [some (.ref 88), some (.int v1), some (.int v2), some (.int v3), none, some (.int (s.1)), none] [] shp s.2 (aQi shp K)) (fun s Kb65 hL65 hR65 h => ?_) (v5, D) (Ok.bind h)
      obtain ⟨v5, D⟩ := s
      replace h : Ok (B_X12_groupAt_65 v1 v2 v3 v5 D) Kb65 := h
      unfold B_X12_groupAt_65 at h
      refine aw_iload (n := 67) (i := 5) dX12_groupAt_65 rfl rfl ?_
      refine aw_aload_n (n := 68) (i := 0) dX12_groupAt_67 rfl rfl rfl ?_
      refine aw_getR (n := 71) (j := 3) (r := 91) hG.1 fl_RX12_27 (sF_88 hS) rfl dX12_groupAt_68 rfl ?_
      refine aw_iconst (n := 72) (v := 2) dX12_groupAt_71 rfl (by decide) ?_
      obtain ⟨g_20, h⟩ := Ok.gd h
      refine aw_iaload (n := 73) hG.1 (sF_91 hS) (aIn_in g_20) dX12_groupAt_72 rfl ?_
      refine aw_icmp_ge (n := 76) (tgt := 101) dX12_groupAt_73 rfl (by decide) (fun c => ?_) (fun c => ?_)
      · replace h := Ok.ift h c
        exact aw_le' (hJ_101 v3 D (hR65 D (Ok.dn h :))) ⟨rfl, ⟨rfl, ⟨rfl, ⟨rfl, trivial⟩⟩⟩⟩
      · replace h := Ok.iff h c
        refine aw_aload_n (n := 77) (i := 0) dX12_groupAt_76 rfl rfl rfl ?_
        refine aw_getR (n := 80) (j := 53) (r := 123) hG.1 fl_RX12_130 (sF_88 hS) rfl dX12_groupAt_77 rfl ?_
        refine aw_bipush (n := 82) (v := 6) dX12_groupAt_80 rfl (by decide) ?_
        refine aw_iload_n (n := 83) (i := 3) dX12_groupAt_82 rfl rfl rfl ?_
        refine aw_imul (n := 84) dX12_groupAt_83 rfl ?_
        refine aw_iload (n := 86) (i := 5) dX12_groupAt_84 rfl rfl ?_
        refine aw_iadd (n := 87) dX12_groupAt_86 rfl ?_
        refine aw_aload_n (n := 88) (i := 0) dX12_groupAt_87 rfl rfl rfl ?_
        refine aw_getR (n := 91) (j := 37) (r := 111) hG.1 fl_RX12_94 (sF_88 hS) rfl dX12_groupAt_88 rfl ?_
        refine aw_iload (n := 93) (i := 5) dX12_groupAt_91 rfl rfl ?_
        obtain ⟨g_21, h⟩ := Ok.gd h
        refine aw_iaload (n := 94) hG.1 (sF_111 hS) (aIn_in g_21) dX12_groupAt_93 rfl ?_
        obtain ⟨g_22, h⟩ := Ok.gd h
        obtain ⟨D_23, e_D_23, h⟩ := Ok.let_ h
        refine aw_iastore (n := 95) hG.1 (sF_123 hS) (aIn_in g_22) e_D_23 dX12_groupAt_94 rfl ?_
        obtain ⟨v5_24, e_v5_24, h⟩ := Ok.let_ h
        refine aw_iinc (n := 98) (al' := [some (.ref 88), some (.int v1), some (.int v2), some (.int v3), none, some (.int v5_24), none]) dX12_groupAt_95 rfl rfl e_v5_24 (by decide) rfl ?_
        refine aw_goto (tgt := 65) dX12_groupAt_98 (by decide) ?_
        exact aw_le' (hL65 (v5_24, D_23) (Ok.dn h :)) ⟨rfl, ⟨rfl, ⟨rfl, ⟨rfl, ⟨rfl, trivial⟩⟩⟩⟩⟩
    refine aw_iload_n (n := 3) (i := 3) dX12_groupAt_2 rfl rfl rfl ?_
    refine aw_aload_n (n := 4) (i := 0) dX12_groupAt_3 rfl rfl rfl ?_
    refine aw_getI (n := 7) (j := 52) hG.1 fl_RX12_403 (sF_88 hS) rfl dX12_groupAt_4 rfl ?_
    refine aw_icmp_ge (n := 10) (tgt := 107) dX12_groupAt_7 rfl (by decide) (fun c => ?_) (fun c => ?_)
    · replace h := Ok.ift h c
      exact aw_le' (hJ_107 D (hR2 D (Ok.dn h :))) ⟨rfl, trivial⟩
    · replace h := Ok.iff h c
      refine aw_aload_n (n := 11) (i := 0) dX12_groupAt_10 rfl rfl rfl ?_
      refine aw_getR (n := 14) (j := 51) (r := 122) hG.1 fl_RX12_127 (sF_88 hS) rfl dX12_groupAt_11 rfl ?_
      refine aw_iload_n (n := 15) (i := 3) dX12_groupAt_14 rfl rfl rfl ?_
      obtain ⟨g_10, h⟩ := Ok.gd h
      refine aw_iaload (n := 16) hG.1 (sF_122 hS) (aIn_in g_10) dX12_groupAt_15 rfl ?_
      refine aw_sipush (n := 19) (v := 1000) dX12_groupAt_16 rfl (by decide) ?_
      refine aw_idiv (n := 20) dX12_groupAt_19 rfl (by decide) ?_
      obtain ⟨v4_11, e_v4_11, h⟩ := Ok.let_ h
      refine aw_istore (n := 22) (i := 4) (al' := [some (.ref 88), some (.int v1), some (.int v2), some (.int v3), some (.int v4_11), none, none]) dX12_groupAt_20 rfl e_v4_11 (by decide) rfl ?_
      refine aw_aload_n (n := 23) (i := 0) dX12_groupAt_22 rfl rfl rfl ?_
      refine aw_iload (n := 25) (i := 4) dX12_groupAt_23 rfl rfl ?_
      refine aw_aload_n (n := 26) (i := 0) dX12_groupAt_25 rfl rfl rfl ?_
      refine aw_getR (n := 29) (j := 51) (r := 122) hG.1 fl_RX12_127 (sF_88 hS) rfl dX12_groupAt_26 rfl ?_
      refine aw_iload_n (n := 30) (i := 3) dX12_groupAt_29 rfl rfl rfl ?_
      obtain ⟨g_12, h⟩ := Ok.gd h
      refine aw_iaload (n := 31) hG.1 (sF_122 hS) (aIn_in g_12) dX12_groupAt_30 rfl ?_
      refine aw_sipush (n := 34) (v := 1000) dX12_groupAt_31 rfl (by decide) ?_
      refine aw_irem (n := 35) dX12_groupAt_34 rfl (by decide) ?_
      refine aw_cVi (M := M_X12_groupAt) (n := 38) (As := [.int v4_11, .int ((gI D 122 v3.toNatClampNeg) - (gI D 122 v3.toNatClampNeg) / 1000 * 1000)]) (rest := []) hG.1 lk_RX12_406 rfl rfl (sF_88 hS) (c_X12_isCase hG hS (h := Ok.bi h)) (by decide) (Nat.le_of_ble_eq_true rfl) (by decide) (by decide) dX12_groupAt_35 rfl (fun y_13 D_14 h => ?_)
      refine aw_pop (n := 39) dX12_groupAt_38 rfl rfl ?_
      refine aw_aload_n (n := 40) (i := 0) dX12_groupAt_39 rfl rfl rfl ?_
      refine aw_aload_n (n := 41) (i := 0) dX12_groupAt_40 rfl rfl rfl ?_
      refine aw_getR (n := 44) (j := 14) (r := 102) hG.1 fl_RX12_60 (sF_88 hS) rfl dX12_groupAt_41 rfl ?_
      refine aw_iload_n (n := 45) (i := 1) dX12_groupAt_44 rfl rfl rfl ?_
      obtain ⟨g_15, h⟩ := Ok.gd h
      refine aw_iaload (n := 46) hG.1 (sF_102 hS) (aIn_in g_15) dX12_groupAt_45 rfl ?_
      refine aw_iload_n (n := 47) (i := 2) dX12_groupAt_46 rfl rfl rfl ?_
      refine aw_iload (n := 49) (i := 4) dX12_groupAt_47 rfl rfl ?_
      refine aw_cVv (M := M_X12_groupAt) (n := 52) (As := [.int (gI D_14 102 v1.toNatClampNeg), .int v2, .int v4_11]) (rest := []) hG.1 lk_RX12_339 rfl rfl (sF_88 hS) (c_X12_tellPlace hG hS (h := Ok.bind h)) (by decide) (Nat.le_of_ble_eq_true rfl) (by decide) (by decide) dX12_groupAt_49 rfl (fun D_16 h => ?_)
      refine aw_aload_n (n := 53) (i := 0) dX12_groupAt_52 rfl rfl rfl ?_
      refine aw_aload_n (n := 54) (i := 0) dX12_groupAt_53 rfl rfl rfl ?_
      refine aw_getR (n := 57) (j := 3) (r := 91) hG.1 fl_RX12_27 (sF_88 hS) rfl dX12_groupAt_54 rfl ?_
      refine aw_iconst (n := 58) (v := 4) dX12_groupAt_57 rfl (by decide) ?_
      obtain ⟨g_17, h⟩ := Ok.gd h
      refine aw_iaload (n := 59) hG.1 (sF_91 hS) (aIn_in g_17) dX12_groupAt_58 rfl ?_
      obtain ⟨D_18, e_D_18, h⟩ := Ok.let_ h
      refine aw_putI (n := 62) (j := 30) hG.1 fl_RX12_303 (sF_88 hS) rfl e_D_18 dX12_groupAt_59 rfl ?_
      refine aw_iconst (n := 63) (v := 0) dX12_groupAt_62 rfl (by decide) ?_
      refine aw_istore (n := 65) (i := 5) (al' := [some (.ref 88), some (.int v1), some (.int v2), some (.int v3), some (.int v4_11), some (.int 0), none]) dX12_groupAt_63 rfl rfl (by decide) rfl ?_
      exact aw_le' (hJ_65 v3 0 D_18 h) ⟨rfl, ⟨rfl, ⟨rfl, ⟨rfl, ⟨rfl, trivial⟩⟩⟩⟩⟩
  refine aw_iconst (n := 1) (v := 0) dX12_groupAt_0 rfl (by decide) ?_
  refine aw_istore_n (n := 2) (i := 3) (al' := [some (.ref 88), some (.int v1), some (.int v2), some (.int 0), none, none, none]) dX12_groupAt_1 rfl rfl rfl (by decide) rfl ?_
  exact aw_le' (hJ_2 v1 v2 0 D h) ⟨rfl, ⟨rfl, ⟨rfl, ⟨rfl, trivial⟩⟩⟩⟩
theorem dX12_next_0 : decode cX12_next 0 = .ok (.aload_n 0, 1) := by decide +kernel
theorem dX12_next_1 : decode cX12_next 1 = .ok (.iconst 0, 1) := by decide +kernel
theorem dX12_next_2 : decode cX12_next 2 = .ok (.putfield 157, 3) := by decide +kernel
theorem dX12_next_5 : decode cX12_next 5 = .ok (.iload_n 1, 1) := by decide +kernel
theorem dX12_next_6 : decode cX12_next 6 = .ok (.iconst 0, 1) := by decide +kernel
theorem dX12_next_7 : decode cX12_next 7 = .ok (.bipush 23, 2) := by decide +kernel
theorem dX12_next_9 : decode cX12_next 9 = .ok (.invokestatic 160, 3) := by decide +kernel
theorem dX12_next_12 : decode cX12_next 12 = .ok (.ifCond .eq 12, 3) := by decide +kernel
theorem dX12_next_15 : decode cX12_next 15 = .ok (.iload_n 2, 1) := by decide +kernel
theorem dX12_next_16 : decode cX12_next 16 = .ok (.ifCond .lt 8, 3) := by decide +kernel
theorem dX12_next_19 : decode cX12_next 19 = .ok (.iload_n 2, 1) := by decide +kernel
theorem dX12_next_20 : decode cX12_next 20 = .ok (.iconst 1, 1) := by decide +kernel
theorem dX12_next_21 : decode cX12_next 21 = .ok (.if_icmp .le 9, 3) := by decide +kernel
theorem dX12_next_24 : decode cX12_next 24 = .ok (.aload_n 0, 1) := by decide +kernel
theorem dX12_next_25 : decode cX12_next 25 = .ok (.iconst 1, 1) := by decide +kernel
theorem dX12_next_26 : decode cX12_next 26 = .ok (.invokevirtual 290, 3) := by decide +kernel
theorem dX12_next_29 : decode cX12_next 29 = .ok (.ireturn, 1) := by decide +kernel
theorem dX12_next_30 : decode cX12_next 30 = .ok (.aload_n 0, 1) := by decide +kernel
theorem dX12_next_31 : decode cX12_next 31 = .ok (.invokevirtual 412, 3) := by decide +kernel
theorem dX12_next_34 : decode cX12_next 34 = .ok (.iconst (-1), 1) := by decide +kernel
theorem dX12_next_35 : decode cX12_next 35 = .ok (.istore_n 3, 1) := by decide +kernel
theorem dX12_next_36 : decode cX12_next 36 = .ok (.iconst (-1), 1) := by decide +kernel
theorem dX12_next_37 : decode cX12_next 37 = .ok (.istore 4, 2) := by decide +kernel
theorem dX12_next_39 : decode cX12_next 39 = .ok (.iconst 0, 1) := by decide +kernel
theorem dX12_next_40 : decode cX12_next 40 = .ok (.istore 5, 2) := by decide +kernel
theorem dX12_next_42 : decode cX12_next 42 = .ok (.iload 5, 2) := by decide +kernel
theorem dX12_next_44 : decode cX12_next 44 = .ok (.aload_n 0, 1) := by decide +kernel
theorem dX12_next_45 : decode cX12_next 45 = .ok (.getfield 27, 3) := by decide +kernel
theorem dX12_next_48 : decode cX12_next 48 = .ok (.iconst 5, 1) := by decide +kernel
theorem dX12_next_49 : decode cX12_next 49 = .ok (.iaload, 1) := by decide +kernel
theorem dX12_next_50 : decode cX12_next 50 = .ok (.if_icmp .ge 47, 3) := by decide +kernel
theorem dX12_next_53 : decode cX12_next 53 = .ok (.aload_n 0, 1) := by decide +kernel
theorem dX12_next_54 : decode cX12_next 54 = .ok (.getfield 403, 3) := by decide +kernel
theorem dX12_next_57 : decode cX12_next 57 = .ok (.ifCond .le 40, 3) := by decide +kernel
theorem dX12_next_60 : decode cX12_next 60 = .ok (.aload_n 0, 1) := by decide +kernel
theorem dX12_next_61 : decode cX12_next 61 = .ok (.iload 5, 2) := by decide +kernel
theorem dX12_next_63 : decode cX12_next 63 = .ok (.iload_n 1, 1) := by decide +kernel
theorem dX12_next_64 : decode cX12_next 64 = .ok (.invokevirtual 418, 3) := by decide +kernel
theorem dX12_next_67 : decode cX12_next 67 = .ok (.istore 6, 2) := by decide +kernel
theorem dX12_next_69 : decode cX12_next 69 = .ok (.iload_n 3, 1) := by decide +kernel
theorem dX12_next_70 : decode cX12_next 70 = .ok (.iconst (-1), 1) := by decide +kernel
theorem dX12_next_71 : decode cX12_next 71 = .ok (.if_icmp .eq 13, 3) := by decide +kernel
theorem dX12_next_74 : decode cX12_next 74 = .ok (.iload 6, 2) := by decide +kernel
theorem dX12_next_76 : decode cX12_next 76 = .ok (.iload 4, 2) := by decide +kernel
theorem dX12_next_78 : decode cX12_next 78 = .ok (.if_icmp .lt 6, 3) := by decide +kernel
theorem dX12_next_81 : decode cX12_next 81 = .ok (.goto 10, 3) := by decide +kernel
theorem dX12_next_84 : decode cX12_next 84 = .ok (.iload 5, 2) := by decide +kernel
theorem dX12_next_86 : decode cX12_next 86 = .ok (.istore_n 3, 1) := by decide +kernel
theorem dX12_next_87 : decode cX12_next 87 = .ok (.iload 6, 2) := by decide +kernel
theorem dX12_next_89 : decode cX12_next 89 = .ok (.istore 4, 2) := by decide +kernel
theorem dX12_next_91 : decode cX12_next 91 = .ok (.iinc 5 1, 3) := by decide +kernel
theorem dX12_next_94 : decode cX12_next 94 = .ok (.goto (-52), 3) := by decide +kernel
theorem dX12_next_97 : decode cX12_next 97 = .ok (.iload_n 2, 1) := by decide +kernel
theorem dX12_next_98 : decode cX12_next 98 = .ok (.ifCond .ne 7, 3) := by decide +kernel
theorem dX12_next_101 : decode cX12_next 101 = .ok (.iload_n 3, 1) := by decide +kernel
theorem dX12_next_102 : decode cX12_next 102 = .ok (.goto 5, 3) := by decide +kernel
theorem dX12_next_105 : decode cX12_next 105 = .ok (.iload 4, 2) := by decide +kernel
theorem dX12_next_107 : decode cX12_next 107 = .ok (.ireturn, 1) := by decide +kernel
def J_X12_next_97 (v2 : Int32) (v3 : Int32) (v4 : Int32) (D : aD) : Option (Int32 × aD) :=
  if v2 ≠ 0 then (some (v4, D)) else (some (v3, D))
def B_X12_next_42 (v1 : Int32) (v2 : Int32) (v3 : Int32) (v4 : Int32) (v5 : Int32) (D : aD) : Option ((Int32 × Int32 × Int32 × aD) ⊕ ((Int32 × Int32 × aD))) :=
  aGd (aIn 5 32) (if gI D 91 (5 : Int32).toNatClampNeg ≤ v5 then (some (.inr (v3, v4, D))) else (if gI D 88 52 ≤ 0 then (some (.inr (v3, v4, D))) else (aBi (f_X12_groupAt v5 v1 D) (fun y_10 D_11 => if v3 = (-1) then (aLet (v5 + 1) (fun v5_12 => some (.inl (v5, y_10, v5_12, D_11)))) else (if y_10 < v4 then (aLet (v5 + 1) (fun v5_13 => some (.inl (v5, y_10, v5_13, D_11)))) else (aLet (v5 + 1) (fun v5_14 => some (.inl (v3, v4, v5_14, D_11)))))))))
def J_X12_next_42 (v1 : Int32) (v2 : Int32) (v3 : Int32) (v4 : Int32) (v5 : Int32) (D : aD) : Option (Int32 × aD) :=
  (aLp (fun s => B_X12_next_42 v1 v2 s.1 s.2.1 s.2.2.1 s.2.2.2) (v3, v4, v5, D)).bind (fun r => J_X12_next_97 v2 (r.1) (r.2.1) r.2.2)
def f_X12_next (v1 : Int32) (v2 : Int32) (D : aD) : Option (Int32 × aD) :=
  aLet (pI D 88 2 0) (fun D_1 => aBi (f_X12_isIn v1 0 23 D_1) (fun y_2 D_3 => if y_2 = 0 then (aBi (f_X12_fail 1 D_3) (fun y_4 D_5 => some (y_4, D_5))) else (if v2 < 0 then (aBi (f_X12_fail 1 D_3) (fun y_6 D_7 => some (y_6, D_7))) else (if v2 ≤ 1 then ((f_X12_tellCases D_3).bind (fun D_8 => J_X12_next_42 v1 v2 (-1) (-1) 0 D_8)) else (aBi (f_X12_fail 1 D_3) (fun y_15 D_16 => some (y_15, D_16)))))))
set_option maxRecDepth 100000 in
set_option maxHeartbeats 800000 in
theorem c_X12_next {G : aG} (hG : gOK G) {shp : List aSh} (hS : aShp shp) {fr : Option Nat} {v1 : Int32} {v2 : Int32} {D : aD} {K : Int32 → aD → Prop} (h : Ok2 (f_X12_next v1 v2 D) K) : AC G (aRm 6 0 0) M_X12_next [.ref 88, .int v1, .int v2] fr shp D (aQi shp K) := by
  replace h := Ok2.ok h
  unfold f_X12_next at h
  refine AC.of (al := [some (.ref 88), some (.int v1), some (.int v2), none, none, none, none]) (r := 4) (by decide) (Nat.le_of_ble_eq_true rfl) rfl ?_
  have hJ_97 : ∀ (v2 : Int32) (v3 : Int32) (v4 : Int32) (D : aD), Ok (J_X12_next_97 v2 v3 v4 D) (fun r => K r.1 r.2) → AW G (aRm 6 0 0) M_X12_next fr 0 0 97 [none, none, some (.int v2), some (.int v3), some (.int v4), none, none] [] shp D (aQi shp K) := by
    intro v2 v3 v4 D h
    unfold J_X12_next_97 at h
    refine aw_iload_n (n := 98) (i := 2) dX12_next_97 rfl rfl rfl ?_
    refine aw_if_ne (n := 101) (tgt := 105) dX12_next_98 rfl (by decide) (fun c => ?_) (fun c => ?_)
    · replace h := Ok.ift h c
      refine aw_iload (n := 107) (i := 4) dX12_next_105 rfl rfl ?_
      exact aw_iret rfl (by decide) (by decide) dX12_next_107 ⟨_, rfl, rfl, (Ok.dn h :)⟩
    · replace h := Ok.iffn h c
      refine aw_iload_n (n := 102) (i := 3) dX12_next_101 rfl rfl rfl ?_
      refine aw_goto (tgt := 107) dX12_next_102 (by decide) ?_
      exact aw_iret rfl (by decide) (by decide) dX12_next_107 ⟨_, rfl, rfl, (Ok.dn h :)⟩
  have hJ_42 : ∀ (v1 : Int32) (v2 : Int32) (v3 : Int32) (v4 : Int32) (v5 : Int32) (D : aD), Ok (J_X12_next_42 v1 v2 v3 v4 v5 D) (fun r => K r.1 r.2) → AW G (aRm 6 0 0) M_X12_next fr 0 0 42 [some (.ref 88), some (.int v1), some (.int v2), some (.int v3), some (.int v4), some (.int v5), none] [] shp D (aQi shp K) := by
    intro v1 v2 v3 v4 v5 D h
    unfold J_X12_next_42 at h
    refine Ok.lp (P := fun s => AW G (aRm 6 0 0) M_X12_next fr 0 0 42 [some (.ref 88), some (.int v1), some (.int v2), some (.int (s.1)), some (.int (s.2.1)), some (.int (s.2.2.1)), none] [] shp s.2.2.2 (aQi shp K)) (fun s Kb42 hL42 hR42 h => ?_) (v3, v4, v5, D) (Ok.bind h)
    obtain ⟨v3, v4, v5, D⟩ := s
    replace h : Ok (B_X12_next_42 v1 v2 v3 v4 v5 D) Kb42 := h
    unfold B_X12_next_42 at h
    refine aw_iload (n := 44) (i := 5) dX12_next_42 rfl rfl ?_
    refine aw_aload_n (n := 45) (i := 0) dX12_next_44 rfl rfl rfl ?_
    refine aw_getR (n := 48) (j := 3) (r := 91) hG.1 fl_RX12_27 (sF_88 hS) rfl dX12_next_45 rfl ?_
    refine aw_iconst (n := 49) (v := 5) dX12_next_48 rfl (by decide) ?_
    obtain ⟨g_9, h⟩ := Ok.gd h
    refine aw_iaload (n := 50) hG.1 (sF_91 hS) (aIn_in g_9) dX12_next_49 rfl ?_
    refine aw_icmp_ge (n := 53) (tgt := 97) dX12_next_50 rfl (by decide) (fun c => ?_) (fun c => ?_)
    · replace h := Ok.ift h c
      exact aw_le' (hJ_97 v2 v3 v4 D (hR42 (v3, v4, D) (Ok.dn h :))) ⟨rfl, ⟨rfl, ⟨rfl, trivial⟩⟩⟩
    · replace h := Ok.iff h c
      refine aw_aload_n (n := 54) (i := 0) dX12_next_53 rfl rfl rfl ?_
      refine aw_getI (n := 57) (j := 52) hG.1 fl_RX12_403 (sF_88 hS) rfl dX12_next_54 rfl ?_
      refine aw_if_le (n := 60) (tgt := 97) dX12_next_57 rfl (by decide) (fun c => ?_) (fun c => ?_)
      · replace h := Ok.ift h c
        exact aw_le' (hJ_97 v2 v3 v4 D (hR42 (v3, v4, D) (Ok.dn h :))) ⟨rfl, ⟨rfl, ⟨rfl, trivial⟩⟩⟩
      · replace h := Ok.iff h c
        refine aw_aload_n (n := 61) (i := 0) dX12_next_60 rfl rfl rfl ?_
        refine aw_iload (n := 63) (i := 5) dX12_next_61 rfl rfl ?_
        refine aw_iload_n (n := 64) (i := 1) dX12_next_63 rfl rfl rfl ?_
        refine aw_cVi (M := M_X12_next) (n := 67) (As := [.int v5, .int v1]) (rest := []) hG.1 lk_RX12_418 rfl rfl (sF_88 hS) (c_X12_groupAt hG hS (h := Ok.bi h)) (by decide) (Nat.le_of_ble_eq_true rfl) (by decide) (by decide) dX12_next_64 rfl (fun y_10 D_11 h => ?_)
        refine aw_istore (n := 69) (i := 6) (al' := [some (.ref 88), some (.int v1), some (.int v2), some (.int v3), some (.int v4), some (.int v5), some (.int y_10)]) dX12_next_67 rfl rfl (by decide) rfl ?_
        refine aw_iload_n (n := 70) (i := 3) dX12_next_69 rfl rfl rfl ?_
        refine aw_iconst (n := 71) (v := (-1)) dX12_next_70 rfl (by decide) ?_
        refine aw_icmp_eq (n := 74) (tgt := 84) dX12_next_71 rfl (by decide) (fun c => ?_) (fun c => ?_)
        · replace h := Ok.ift h c
          refine aw_iload (n := 86) (i := 5) dX12_next_84 rfl rfl ?_
          refine aw_istore_n (n := 87) (i := 3) (al' := [some (.ref 88), some (.int v1), some (.int v2), some (.int v5), some (.int v4), some (.int v5), some (.int y_10)]) dX12_next_86 rfl rfl rfl (by decide) rfl ?_
          refine aw_iload (n := 89) (i := 6) dX12_next_87 rfl rfl ?_
          refine aw_istore (n := 91) (i := 4) (al' := [some (.ref 88), some (.int v1), some (.int v2), some (.int v5), some (.int y_10), some (.int v5), some (.int y_10)]) dX12_next_89 rfl rfl (by decide) rfl ?_
          obtain ⟨v5_12, e_v5_12, h⟩ := Ok.let_ h
          refine aw_iinc (n := 94) (al' := [some (.ref 88), some (.int v1), some (.int v2), some (.int v5), some (.int y_10), some (.int v5_12), some (.int y_10)]) dX12_next_91 rfl rfl e_v5_12 (by decide) rfl ?_
          refine aw_goto (tgt := 42) dX12_next_94 (by decide) ?_
          exact aw_le' (hL42 (v5, y_10, v5_12, D_11) (Ok.dn h :)) ⟨rfl, ⟨rfl, ⟨rfl, ⟨rfl, ⟨rfl, ⟨rfl, trivial⟩⟩⟩⟩⟩⟩
        · replace h := Ok.iff h c
          refine aw_iload (n := 76) (i := 6) dX12_next_74 rfl rfl ?_
          refine aw_iload (n := 78) (i := 4) dX12_next_76 rfl rfl ?_
          refine aw_icmp_lt (n := 81) (tgt := 84) dX12_next_78 rfl (by decide) (fun c => ?_) (fun c => ?_)
          · replace h := Ok.ift h c
            refine aw_iload (n := 86) (i := 5) dX12_next_84 rfl rfl ?_
            refine aw_istore_n (n := 87) (i := 3) (al' := [some (.ref 88), some (.int v1), some (.int v2), some (.int v5), some (.int v4), some (.int v5), some (.int y_10)]) dX12_next_86 rfl rfl rfl (by decide) rfl ?_
            refine aw_iload (n := 89) (i := 6) dX12_next_87 rfl rfl ?_
            refine aw_istore (n := 91) (i := 4) (al' := [some (.ref 88), some (.int v1), some (.int v2), some (.int v5), some (.int y_10), some (.int v5), some (.int y_10)]) dX12_next_89 rfl rfl (by decide) rfl ?_
            obtain ⟨v5_13, e_v5_13, h⟩ := Ok.let_ h
            refine aw_iinc (n := 94) (al' := [some (.ref 88), some (.int v1), some (.int v2), some (.int v5), some (.int y_10), some (.int v5_13), some (.int y_10)]) dX12_next_91 rfl rfl e_v5_13 (by decide) rfl ?_
            refine aw_goto (tgt := 42) dX12_next_94 (by decide) ?_
            exact aw_le' (hL42 (v5, y_10, v5_13, D_11) (Ok.dn h :)) ⟨rfl, ⟨rfl, ⟨rfl, ⟨rfl, ⟨rfl, ⟨rfl, trivial⟩⟩⟩⟩⟩⟩
          · replace h := Ok.iff h c
            refine aw_goto (tgt := 91) dX12_next_81 (by decide) ?_
            obtain ⟨v5_14, e_v5_14, h⟩ := Ok.let_ h
            refine aw_iinc (n := 94) (al' := [some (.ref 88), some (.int v1), some (.int v2), some (.int v3), some (.int v4), some (.int v5_14), some (.int y_10)]) dX12_next_91 rfl rfl e_v5_14 (by decide) rfl ?_
            refine aw_goto (tgt := 42) dX12_next_94 (by decide) ?_
            exact aw_le' (hL42 (v3, v4, v5_14, D_11) (Ok.dn h :)) ⟨rfl, ⟨rfl, ⟨rfl, ⟨rfl, ⟨rfl, ⟨rfl, trivial⟩⟩⟩⟩⟩⟩
  refine aw_aload_n (n := 1) (i := 0) dX12_next_0 rfl rfl rfl ?_
  refine aw_iconst (n := 2) (v := 0) dX12_next_1 rfl (by decide) ?_
  obtain ⟨D_1, e_D_1, h⟩ := Ok.let_ h
  refine aw_putI (n := 5) (j := 2) hG.1 fl_RX12_157 (sF_88 hS) rfl e_D_1 dX12_next_2 rfl ?_
  refine aw_iload_n (n := 6) (i := 1) dX12_next_5 rfl rfl rfl ?_
  refine aw_iconst (n := 7) (v := 0) dX12_next_6 rfl (by decide) ?_
  refine aw_bipush (n := 9) (v := 23) dX12_next_7 rfl (by decide) ?_
  refine aw_cSi (M := M_X12_next) (n := 12) (As := [.int v1, .int 0, .int 23]) (rest := []) lk_RX12_160 rfl rfl (c_X12_isIn hG hS (h := Ok.bi h)) (by decide) (Nat.le_of_ble_eq_true rfl) (by decide) (by decide) dX12_next_9 rfl (fun y_2 D_3 h => ?_)
  refine aw_if_eq (n := 15) (tgt := 24) dX12_next_12 rfl (by decide) (fun c => ?_) (fun c => ?_)
  · replace h := Ok.ift h c
    refine aw_aload_n (n := 25) (i := 0) dX12_next_24 rfl rfl rfl ?_
    refine aw_iconst (n := 26) (v := 1) dX12_next_25 rfl (by decide) ?_
    refine aw_cVi (M := M_X12_next) (n := 29) (As := [.int 1]) (rest := []) hG.1 lk_RX12_290 rfl rfl (sF_88 hS) (c_X12_fail hG hS (h := Ok.bi h)) (by decide) (Nat.le_of_ble_eq_true rfl) (by decide) (by decide) dX12_next_26 rfl (fun y_4 D_5 h => ?_)
    exact aw_iret rfl (by decide) (by decide) dX12_next_29 ⟨_, rfl, rfl, (Ok.dn h :)⟩
  · replace h := Ok.iff h c
    refine aw_iload_n (n := 16) (i := 2) dX12_next_15 rfl rfl rfl ?_
    refine aw_if_lt (n := 19) (tgt := 24) dX12_next_16 rfl (by decide) (fun c => ?_) (fun c => ?_)
    · replace h := Ok.ift h c
      refine aw_aload_n (n := 25) (i := 0) dX12_next_24 rfl rfl rfl ?_
      refine aw_iconst (n := 26) (v := 1) dX12_next_25 rfl (by decide) ?_
      refine aw_cVi (M := M_X12_next) (n := 29) (As := [.int 1]) (rest := []) hG.1 lk_RX12_290 rfl rfl (sF_88 hS) (c_X12_fail hG hS (h := Ok.bi h)) (by decide) (Nat.le_of_ble_eq_true rfl) (by decide) (by decide) dX12_next_26 rfl (fun y_6 D_7 h => ?_)
      exact aw_iret rfl (by decide) (by decide) dX12_next_29 ⟨_, rfl, rfl, (Ok.dn h :)⟩
    · replace h := Ok.iff h c
      refine aw_iload_n (n := 20) (i := 2) dX12_next_19 rfl rfl rfl ?_
      refine aw_iconst (n := 21) (v := 1) dX12_next_20 rfl (by decide) ?_
      refine aw_icmp_le (n := 24) (tgt := 30) dX12_next_21 rfl (by decide) (fun c => ?_) (fun c => ?_)
      · replace h := Ok.ift h c
        refine aw_aload_n (n := 31) (i := 0) dX12_next_30 rfl rfl rfl ?_
        refine aw_cVv (M := M_X12_next) (n := 34) (As := []) (rest := []) hG.1 lk_RX12_412 rfl rfl (sF_88 hS) (c_X12_tellCases hG hS (h := Ok.bind h)) (by decide) (Nat.le_of_ble_eq_true rfl) (by decide) (by decide) dX12_next_31 rfl (fun D_8 h => ?_)
        refine aw_iconst (n := 35) (v := (-1)) dX12_next_34 rfl (by decide) ?_
        refine aw_istore_n (n := 36) (i := 3) (al' := [some (.ref 88), some (.int v1), some (.int v2), some (.int (-1)), none, none, none]) dX12_next_35 rfl rfl rfl (by decide) rfl ?_
        refine aw_iconst (n := 37) (v := (-1)) dX12_next_36 rfl (by decide) ?_
        refine aw_istore (n := 39) (i := 4) (al' := [some (.ref 88), some (.int v1), some (.int v2), some (.int (-1)), some (.int (-1)), none, none]) dX12_next_37 rfl rfl (by decide) rfl ?_
        refine aw_iconst (n := 40) (v := 0) dX12_next_39 rfl (by decide) ?_
        refine aw_istore (n := 42) (i := 5) (al' := [some (.ref 88), some (.int v1), some (.int v2), some (.int (-1)), some (.int (-1)), some (.int 0), none]) dX12_next_40 rfl rfl (by decide) rfl ?_
        exact aw_le' (hJ_42 v1 v2 (-1) (-1) 0 D_8 h) ⟨rfl, ⟨rfl, ⟨rfl, ⟨rfl, ⟨rfl, ⟨rfl, trivial⟩⟩⟩⟩⟩⟩
      · replace h := Ok.iff h c
        refine aw_aload_n (n := 25) (i := 0) dX12_next_24 rfl rfl rfl ?_
        refine aw_iconst (n := 26) (v := 1) dX12_next_25 rfl (by decide) ?_
        refine aw_cVi (M := M_X12_next) (n := 29) (As := [.int 1]) (rest := []) hG.1 lk_RX12_290 rfl rfl (sF_88 hS) (c_X12_fail hG hS (h := Ok.bi h)) (by decide) (Nat.le_of_ble_eq_true rfl) (by decide) (by decide) dX12_next_26 rfl (fun y_15 D_16 h => ?_)
        exact aw_iret rfl (by decide) (by decide) dX12_next_29 ⟨_, rfl, rfl, (Ok.dn h :)⟩
