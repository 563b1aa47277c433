theorem dX10_tryCase_0 : decode cX10_tryCase 0 = .ok (.iconst 0, 1) := by decide +kernel
theorem dX10_tryCase_1 : decode cX10_tryCase 1 = .ok (.istore 4, 2) := by decide +kernel
theorem dX10_tryCase_3 : decode cX10_tryCase 3 = .ok (.iload 4, 2) := by decide +kernel
theorem dX10_tryCase_5 : decode cX10_tryCase 5 = .ok (.aload_n 0, 1) := by decide +kernel
theorem dX10_tryCase_6 : decode cX10_tryCase 6 = .ok (.getfield 31, 3) := by decide +kernel
theorem dX10_tryCase_9 : decode cX10_tryCase 9 = .ok (.getfield 51, 3) := by decide +kernel
theorem dX10_tryCase_12 : decode cX10_tryCase 12 = .ok (.if_icmp .ge 131, 3) := by decide +kernel
theorem dX10_tryCase_15 : decode cX10_tryCase 15 = .ok (.aload_n 0, 1) := by decide +kernel
theorem dX10_tryCase_16 : decode cX10_tryCase 16 = .ok (.getfield 27, 3) := by decide +kernel
theorem dX10_tryCase_19 : decode cX10_tryCase 19 = .ok (.getfield 56, 3) := by decide +kernel
theorem dX10_tryCase_22 : decode cX10_tryCase 22 = .ok (.aload_n 0, 1) := by decide +kernel
theorem dX10_tryCase_23 : decode cX10_tryCase 23 = .ok (.getfield 31, 3) := by decide +kernel
theorem dX10_tryCase_26 : decode cX10_tryCase 26 = .ok (.getfield 59, 3) := by decide +kernel
theorem dX10_tryCase_29 : decode cX10_tryCase 29 = .ok (.iload 4, 2) := by decide +kernel
theorem dX10_tryCase_31 : decode cX10_tryCase 31 = .ok (.iaload, 1) := by decide +kernel
theorem dX10_tryCase_32 : decode cX10_tryCase 32 = .ok (.iaload, 1) := by decide +kernel
theorem dX10_tryCase_33 : decode cX10_tryCase 33 = .ok (.istore 5, 2) := by decide +kernel
theorem dX10_tryCase_35 : decode cX10_tryCase 35 = .ok (.aload_n 0, 1) := by decide +kernel
theorem dX10_tryCase_36 : decode cX10_tryCase 36 = .ok (.getfield 35, 3) := by decide +kernel
theorem dX10_tryCase_39 : decode cX10_tryCase 39 = .ok (.aload_n 0, 1) := by decide +kernel
theorem dX10_tryCase_40 : decode cX10_tryCase 40 = .ok (.getfield 15, 3) := by decide +kernel
theorem dX10_tryCase_43 : decode cX10_tryCase 43 = .ok (.iload 4, 2) := by decide +kernel
theorem dX10_tryCase_45 : decode cX10_tryCase 45 = .ok (.invokevirtual 95, 3) := by decide +kernel
theorem dX10_tryCase_48 : decode cX10_tryCase 48 = .ok (.iload_n 2, 1) := by decide +kernel
theorem dX10_tryCase_49 : decode cX10_tryCase 49 = .ok (.iconst (-1), 1) := by decide +kernel
theorem dX10_tryCase_50 : decode cX10_tryCase 50 = .ok (.if_icmp .eq 45, 3) := by decide +kernel
theorem dX10_tryCase_53 : decode cX10_tryCase 53 = .ok (.aload_n 0, 1) := by decide +kernel
theorem dX10_tryCase_54 : decode cX10_tryCase 54 = .ok (.getfield 35, 3) := by decide +kernel
theorem dX10_tryCase_57 : decode cX10_tryCase 57 = .ok (.getfield 98, 3) := by decide +kernel
theorem dX10_tryCase_60 : decode cX10_tryCase 60 = .ok (.iload_n 2, 1) := by decide +kernel
theorem dX10_tryCase_61 : decode cX10_tryCase 61 = .ok (.dup2, 1) := by decide +kernel
theorem dX10_tryCase_62 : decode cX10_tryCase 62 = .ok (.iaload, 1) := by decide +kernel
theorem dX10_tryCase_63 : decode cX10_tryCase 63 = .ok (.aload_n 0, 1) := by decide +kernel
theorem dX10_tryCase_64 : decode cX10_tryCase 64 = .ok (.getfield 27, 3) := by decide +kernel
theorem dX10_tryCase_67 : decode cX10_tryCase 67 = .ok (.iload_n 2, 1) := by decide +kernel
theorem dX10_tryCase_68 : decode cX10_tryCase 68 = .ok (.iconst 1, 1) := by decide +kernel
theorem dX10_tryCase_69 : decode cX10_tryCase 69 = .ok (.iload_n 3, 1) := by decide +kernel
theorem dX10_tryCase_70 : decode cX10_tryCase 70 = .ok (.iload 5, 2) := by decide +kernel
theorem dX10_tryCase_72 : decode cX10_tryCase 72 = .ok (.aload_n 0, 1) := by decide +kernel
theorem dX10_tryCase_73 : decode cX10_tryCase 73 = .ok (.getfield 31, 3) := by decide +kernel
theorem dX10_tryCase_76 : decode cX10_tryCase 76 = .ok (.getfield 101, 3) := by decide +kernel
theorem dX10_tryCase_79 : decode cX10_tryCase 79 = .ok (.aload_n 0, 1) := by decide +kernel
theorem dX10_tryCase_80 : decode cX10_tryCase 80 = .ok (.getfield 31, 3) := by decide +kernel
theorem dX10_tryCase_83 : decode cX10_tryCase 83 = .ok (.getfield 62, 3) := by decide +kernel
theorem dX10_tryCase_86 : decode cX10_tryCase 86 = .ok (.iload 4, 2) := by decide +kernel
theorem dX10_tryCase_88 : decode cX10_tryCase 88 = .ok (.iaload, 1) := by decide +kernel
theorem dX10_tryCase_89 : decode cX10_tryCase 89 = .ok (.iload_n 1, 1) := by decide +kernel
theorem dX10_tryCase_90 : decode cX10_tryCase 90 = .ok (.invokevirtual 104, 3) := by decide +kernel
theorem dX10_tryCase_93 : decode cX10_tryCase 93 = .ok (.iadd, 1) := by decide +kernel
theorem dX10_tryCase_94 : decode cX10_tryCase 94 = .ok (.iastore, 1) := by decide +kernel
theorem dX10_tryCase_95 : decode cX10_tryCase 95 = .ok (.aload_n 0, 1) := by decide +kernel
theorem dX10_tryCase_96 : decode cX10_tryCase 96 = .ok (.getfield 35, 3) := by decide +kernel
theorem dX10_tryCase_99 : decode cX10_tryCase 99 = .ok (.aload_n 0, 1) := by decide +kernel
theorem dX10_tryCase_100 : decode cX10_tryCase 100 = .ok (.getfield 31, 3) := by decide +kernel
theorem dX10_tryCase_103 : decode cX10_tryCase 103 = .ok (.getfield 108, 3) := by decide +kernel
theorem dX10_tryCase_106 : decode cX10_tryCase 106 = .ok (.iload 4, 2) := by decide +kernel
theorem dX10_tryCase_108 : decode cX10_tryCase 108 = .ok (.iaload, 1) := by decide +kernel
theorem dX10_tryCase_109 : decode cX10_tryCase 109 = .ok (.invokevirtual 111, 3) := by decide +kernel
theorem dX10_tryCase_112 : decode cX10_tryCase 112 = .ok (.istore 6, 2) := by decide +kernel
theorem dX10_tryCase_114 : decode cX10_tryCase 114 = .ok (.aload_n 0, 1) := by decide +kernel
theorem dX10_tryCase_115 : decode cX10_tryCase 115 = .ok (.getfield 35, 3) := by decide +kernel
theorem dX10_tryCase_118 : decode cX10_tryCase 118 = .ok (.iload 6, 2) := by decide +kernel
theorem dX10_tryCase_120 : decode cX10_tryCase 120 = .ok (.invokevirtual 115, 3) := by decide +kernel
theorem dX10_tryCase_123 : decode cX10_tryCase 123 = .ok (.aload_n 0, 1) := by decide +kernel
theorem dX10_tryCase_124 : decode cX10_tryCase 124 = .ok (.getfield 31, 3) := by decide +kernel
theorem dX10_tryCase_127 : decode cX10_tryCase 127 = .ok (.getfield 118, 3) := by decide +kernel
theorem dX10_tryCase_130 : decode cX10_tryCase 130 = .ok (.iload 4, 2) := by decide +kernel
theorem dX10_tryCase_132 : decode cX10_tryCase 132 = .ok (.iaload, 1) := by decide +kernel
theorem dX10_tryCase_133 : decode cX10_tryCase 133 = .ok (.if_icmp .eq 4, 3) := by decide +kernel
theorem dX10_tryCase_136 : decode cX10_tryCase 136 = .ok (.return_, 1) := by decide +kernel
theorem dX10_tryCase_137 : decode cX10_tryCase 137 = .ok (.iinc 4 1, 3) := by decide +kernel
theorem dX10_tryCase_140 : decode cX10_tryCase 140 = .ok (.goto (-137), 3) := by decide +kernel
theorem dX10_tryCase_143 : decode cX10_tryCase 143 = .ok (.aload_n 0, 1) := by decide +kernel
theorem dX10_tryCase_144 : decode cX10_tryCase 144 = .ok (.getfield 39, 3) := by decide +kernel
theorem dX10_tryCase_147 : decode cX10_tryCase 147 = .ok (.sipush 1925, 3) := by decide +kernel
theorem dX10_tryCase_150 : decode cX10_tryCase 150 = .ok (.if_icmp .ge 35, 3) := by decide +kernel
theorem dX10_tryCase_153 : decode cX10_tryCase 153 = .ok (.aload_n 0, 1) := by decide +kernel
theorem dX10_tryCase_154 : decode cX10_tryCase 154 = .ok (.getfield 11, 3) := by decide +kernel
theorem dX10_tryCase_157 : decode cX10_tryCase 157 = .ok (.aload_n 0, 1) := by decide +kernel
theorem dX10_tryCase_158 : decode cX10_tryCase 158 = .ok (.getfield 39, 3) := by decide +kernel
theorem dX10_tryCase_161 : decode cX10_tryCase 161 = .ok (.iload_n 1, 1) := by decide +kernel
theorem dX10_tryCase_162 : decode cX10_tryCase 162 = .ok (.bipush 16, 2) := by decide +kernel
theorem dX10_tryCase_164 : decode cX10_tryCase 164 = .ok (.ishl, 1) := by decide +kernel
theorem dX10_tryCase_165 : decode cX10_tryCase 165 = .ok (.iload_n 2, 1) := by decide +kernel
theorem dX10_tryCase_166 : decode cX10_tryCase 166 = .ok (.iconst 1, 1) := by decide +kernel
theorem dX10_tryCase_167 : decode cX10_tryCase 167 = .ok (.iadd, 1) := by decide +kernel
theorem dX10_tryCase_168 : decode cX10_tryCase 168 = .ok (.bipush 8, 2) := by decide +kernel
theorem dX10_tryCase_170 : decode cX10_tryCase 170 = .ok (.ishl, 1) := by decide +kernel
theorem dX10_tryCase_171 : decode cX10_tryCase 171 = .ok (.ior, 1) := by decide +kernel
theorem dX10_tryCase_172 : decode cX10_tryCase 172 = .ok (.iload_n 3, 1) := by decide +kernel
theorem dX10_tryCase_173 : decode cX10_tryCase 173 = .ok (.ior, 1) := by decide +kernel
theorem dX10_tryCase_174 : decode cX10_tryCase 174 = .ok (.iastore, 1) := by decide +kernel
theorem dX10_tryCase_175 : decode cX10_tryCase 175 = .ok (.aload_n 0, 1) := by decide +kernel
theorem dX10_tryCase_176 : decode cX10_tryCase 176 = .ok (.dup, 1) := by decide +kernel
theorem dX10_tryCase_177 : decode cX10_tryCase 177 = .ok (.getfield 39, 3) := by decide +kernel
theorem dX10_tryCase_180 : decode cX10_tryCase 180 = .ok (.iconst 1, 1) := by decide +kernel
theorem dX10_tryCase_181 : decode cX10_tryCase 181 = .ok (.iadd, 1) := by decide +kernel
theorem dX10_tryCase_182 : decode cX10_tryCase 182 = .ok (.putfield 39, 3) := by decide +kernel
theorem dX10_tryCase_185 : decode cX10_tryCase 185 = .ok (.return_, 1) := by decide +kernel
def J_X10_tryCase_136 (D : aD) : Option (aD) :=
  some D
def J_X10_tryCase_143 (v1 : Int32) (v2 : Int32) (v3 : Int32) (D : aD) : Option (aD) :=
  if 1925 ≤ gI D 79 4 then (some D) else (aGd (aIn (gI D 79 4) 1925) (aLet (pI D 80 (gI D 79 4).toNatClampNeg (((v1 <<< ((16 : Int32) &&& 31)) ||| ((v2 + 1) <<< ((8 : Int32) &&& 31))) ||| v3)) (fun D_2 => aLet (pI D_2 79 4 ((gI D_2 79 4) + 1)) (fun D_3 => some D_3))))
def J_X10_tryCase_95 (v1 : Int32) (v2 : Int32) (v3 : Int32) (v4 : Int32) (D : aD) : Option ((Int32 × aD) ⊕ ((aD) ⊕ (aD))) :=
  aGd (aIn v4 12) (aBi (f_X0_masked (gI D 45 v4.toNatClampNeg) D) (fun y_9 D_10 => aBi (f_X0_noticed y_9 D_10) (fun y_11 D_12 => aGd (aIn v4 12) (if y_11 = gI D_12 46 v4.toNatClampNeg then (aLet (v4 + 1) (fun v4_14 => some (.inl (v4_14, D_12)))) else (some (.inr (.inl (D_12))))))))
def B_X10_tryCase_3 (v1 : Int32) (v2 : Int32) (v3 : Int32) (v4 : Int32) (D : aD) : Option ((Int32 × aD) ⊕ ((aD) ⊕ (aD))) :=
  if gI D 40 4 ≤ v4 then (some (.inr (.inr (D)))) else (aGd (aIn v4 12) (aGd (aIn (gI D 43 v4.toNatClampNeg) 5) (aLet (gI D 11 (gI D 43 v4.toNatClampNeg).toNatClampNeg) (fun v5_6 => (f_X0_loadRaw 81 72 v4 D).bind (fun D_7 => if v2 = (-1) then (J_X10_tryCase_95 v1 v2 v3 v4 D_7) else (aGd (aIn v2 6) (aGd (aIn v4 12) (aBi (f_X6_scent v2 1 v3 v5_6 (gI D_7 40 3) (gI D_7 44 v4.toNatClampNeg) v1 D_7) (fun y_17 D_18 => aGd (aIn v2 6) (aLet (pI D_18 58 v2.toNatClampNeg ((gI D_7 58 v2.toNatClampNeg) + y_17)) (fun D_20 => J_X10_tryCase_95 v1 v2 v3 v4 D_20)))))))))))
def J_X10_tryCase_3 (v1 : Int32) (v2 : Int32) (v3 : Int32) (v4 : Int32) (D : aD) : Option (aD) :=
  (aLp (fun s => B_X10_tryCase_3 v1 v2 v3 s.1 s.2) (v4, D)).bind (Sum.elim (fun r => J_X10_tryCase_136 r) ((fun r => J_X10_tryCase_143 v1 v2 v3 r)))
def f_X10_tryCase (v1 : Int32) (v2 : Int32) (v3 : Int32) (D : aD) : Option (aD) :=
  J_X10_tryCase_3 v1 v2 v3 0 D
set_option maxRecDepth 100000 in
set_option maxHeartbeats 800000 in
theorem c_X10_tryCase {G : aG} (hG : gOK G) {shp : List aSh} (hS : aShp shp) {fr : Option Nat} {v1 : Int32} {v2 : Int32} {v3 : Int32} {D : aD} {K : aD → Prop} (h : Ok (f_X10_tryCase v1 v2 v3 D) K) : AC G (aRm 3 0 0) M_X10_tryCase [.ref 79, .int v1, .int v2, .int v3] fr shp D (aQv shp K) := by
  unfold f_X10_tryCase at h
  refine AC.of (al := [some (.ref 79), some (.int v1), some (.int v2), some (.int v3), none, none, none]) (r := 3) (by decide) (Nat.le_of_ble_eq_true rfl) rfl ?_
  have hJ_136 : ∀ (D : aD), Ok (J_X10_tryCase_136 D) K → AW G (aRm 3 0 0) M_X10_tryCase fr 0 0 136 [none, none, none, none, none, none, none] [] shp D (aQv shp K) := by
    intro D h
    unfold J_X10_tryCase_136 at h
    exact aw_vret rfl (by decide) (by decide) dX10_tryCase_136 ⟨rfl, rfl, (Ok.dn h :)⟩
  have hJ_143 : ∀ (v1 : Int32) (v2 : Int32) (v3 : Int32) (D : aD), Ok (J_X10_tryCase_143 v1 v2 v3 D) K → AW G (aRm 3 0 0) M_X10_tryCase fr 0 0 143 [some (.ref 79), some (.int v1), some (.int v2), some (.int v3), none, none, none] [] shp D (aQv shp K) := by
    intro v1 v2 v3 D h
    unfold J_X10_tryCase_143 at h
    refine aw_aload_n (n := 144) (i := 0) dX10_tryCase_143 rfl rfl rfl ?_
    refine aw_getI (n := 147) (j := 4) hG.1 fl_RX10_39 (sF_79 hS) rfl dX10_tryCase_144 rfl ?_
    refine aw_sipush (n := 150) (v := 1925) dX10_tryCase_147 rfl (by decide) ?_
    refine aw_icmp_ge (n := 153) (tgt := 185) dX10_tryCase_150 rfl (by decide) (fun c => ?_) (fun c => ?_)
    · replace h := Ok.ift h c
      exact aw_vret rfl (by decide) (by decide) dX10_tryCase_185 ⟨rfl, rfl, (Ok.dn h :)⟩
    · replace h := Ok.iff h c
      refine aw_aload_n (n := 154) (i := 0) dX10_tryCase_153 rfl rfl rfl ?_
      refine aw_getR (n := 157) (j := 3) (r := 80) hG.1 fl_RX10_11 (sF_79 hS) rfl dX10_tryCase_154 rfl ?_
      refine aw_aload_n (n := 158) (i := 0) dX10_tryCase_157 rfl rfl rfl ?_
      refine aw_getI (n := 161) (j := 4) hG.1 fl_RX10_39 (sF_79 hS) rfl dX10_tryCase_158 rfl ?_
      refine aw_iload_n (n := 162) (i := 1) dX10_tryCase_161 rfl rfl rfl ?_
      refine aw_bipush (n := 164) (v := 16) dX10_tryCase_162 rfl (by decide) ?_
      refine aw_ishl (n := 165) dX10_tryCase_164 rfl ?_
      refine aw_iload_n (n := 166) (i := 2) dX10_tryCase_165 rfl rfl rfl ?_
      refine aw_iconst (n := 167) (v := 1) dX10_tryCase_166 rfl (by decide) ?_
      refine aw_iadd (n := 168) dX10_tryCase_167 rfl ?_
      refine aw_bipush (n := 170) (v := 8) dX10_tryCase_168 rfl (by decide) ?_
      refine aw_ishl (n := 171) dX10_tryCase_170 rfl ?_
      refine aw_ior (n := 172) dX10_tryCase_171 rfl ?_
      refine aw_iload_n (n := 173) (i := 3) dX10_tryCase_172 rfl rfl rfl ?_
      refine aw_ior (n := 174) dX10_tryCase_173 rfl ?_
      obtain ⟨g_1, h⟩ := Ok.gd h
      obtain ⟨D_2, e_D_2, h⟩ := Ok.let_ h
      refine aw_iastore (n := 175) hG.1 (sF_80 hS) (aIn_in g_1) e_D_2 dX10_tryCase_174 rfl ?_
      refine aw_aload_n (n := 176) (i := 0) dX10_tryCase_175 rfl rfl rfl ?_
      refine aw_dup (n := 177) dX10_tryCase_176 rfl rfl ?_
      refine aw_getI (n := 180) (j := 4) hG.1 fl_RX10_39 (sF_79 hS) rfl dX10_tryCase_177 rfl ?_
      refine aw_iconst (n := 181) (v := 1) dX10_tryCase_180 rfl (by decide) ?_
      refine aw_iadd (n := 182) dX10_tryCase_181 rfl ?_
      obtain ⟨D_3, e_D_3, h⟩ := Ok.let_ h
      refine aw_putI (n := 185) (j := 4) hG.1 fl_RX10_39 (sF_79 hS) rfl e_D_3 dX10_tryCase_182 rfl ?_
      exact aw_vret rfl (by decide) (by decide) dX10_tryCase_185 ⟨rfl, rfl, (Ok.dn h :)⟩
  have hJ_3 : ∀ (v1 : Int32) (v2 : Int32) (v3 : Int32) (v4 : Int32) (D : aD), Ok (J_X10_tryCase_3 v1 v2 v3 v4 D) K → AW G (aRm 3 0 0) M_X10_tryCase fr 0 0 3 [some (.ref 79), some (.int v1), some (.int v2), some (.int v3), some (.int v4), none, none] [] shp D (aQv shp K) := by
    intro v1 v2 v3 v4 D h
    unfold J_X10_tryCase_3 at h
    refine Ok.lp (P := fun s => AW G (aRm 3 0 0) M_X10_tryCase fr 0 0 3 [some (.ref 79), some (.int v1), some (.int v2), some (.int v3), some (.int (s.1)), none, none] [] shp s.2 (aQv shp K)) (fun s Kb3 hL3 hR3 h => ?_) (v4, D) (Ok.bind h)
    obtain ⟨v4, D⟩ := s
    replace h : Ok (B_X10_tryCase_3 v1 v2 v3 v4 D) Kb3 := h
    unfold B_X10_tryCase_3 at h
    have hJ_95 : ∀ (v4 : Int32) (D : aD), Ok (J_X10_tryCase_95 v1 v2 v3 v4 D) Kb3 → AW G (aRm 3 0 0) M_X10_tryCase fr 0 0 95 [some (.ref 79), some (.int v1), some (.int v2), some (.int v3), some (.int v4), none, none] [] shp D (aQv shp K) := by
      intro v4 D h
      unfold J_X10_tryCase_95 at h
      refine aw_aload_n (n := 96) (i := 0) dX10_tryCase_95 rfl rfl rfl ?_
      refine aw_getR (n := 99) (j := 2) (r := 57) hG.1 fl_RX10_35 (sF_79 hS) rfl dX10_tryCase_96 rfl ?_
      refine aw_aload_n (n := 100) (i := 0) dX10_tryCase_99 rfl rfl rfl ?_
      refine aw_getR (n := 103) (j := 1) (r := 40) hG.1 fl_RX10_31 (sF_79 hS) rfl dX10_tryCase_100 rfl ?_
      refine aw_getR (n := 106) (j := 7) (r := 45) hG.1 fl_RX10_108 (sF_40 hS) rfl dX10_tryCase_103 rfl ?_
      refine aw_iload (n := 108) (i := 4) dX10_tryCase_106 rfl rfl ?_
      obtain ⟨g_8, h⟩ := Ok.gd h
      refine aw_iaload (n := 109) hG.1 (sF_45 hS) (aIn_in g_8) dX10_tryCase_108 rfl ?_
      refine aw_cVi (M := M_X10_tryCase) (n := 112) (As := [.int (gI D 45 v4.toNatClampNeg)]) (rest := []) hG.1 lk_RX10_111 rfl rfl (sF_57 hS) (c_X0_masked hG hS (h := Ok.bi h)) (by decide) (Nat.le_of_ble_eq_true rfl) (by decide) (by decide) dX10_tryCase_109 rfl (fun y_9 D_10 h => ?_)
      refine aw_istore (n := 114) (i := 6) (al' := [some (.ref 79), some (.int v1), some (.int v2), some (.int v3), some (.int v4), none, some (.int y_9)]) dX10_tryCase_112 rfl rfl (by decide) rfl ?_
      refine aw_aload_n (n := 115) (i := 0) dX10_tryCase_114 rfl rfl rfl ?_
      refine aw_getR (n := 118) (j := 2) (r := 57) hG.1 fl_RX10_35 (sF_79 hS) rfl dX10_tryCase_115 rfl ?_
      refine aw_iload (n := 120) (i := 6) dX10_tryCase_118 rfl rfl ?_
      refine aw_cVi (M := M_X10_tryCase) (n := 123) (As := [.int y_9]) (rest := []) hG.1 lk_RX10_115 rfl rfl (sF_57 hS) (c_X0_noticed hG hS (h := Ok.bi h)) (by decide) (Nat.le_of_ble_eq_true rfl) (by decide) (by decide) dX10_tryCase_120 rfl (fun y_11 D_12 h => ?_)
      refine aw_aload_n (n := 124) (i := 0) dX10_tryCase_123 rfl rfl rfl ?_
      refine aw_getR (n := 127) (j := 1) (r := 40) hG.1 fl_RX10_31 (sF_79 hS) rfl dX10_tryCase_124 rfl ?_
      refine aw_getR (n := 130) (j := 8) (r := 46) hG.1 fl_RX10_118 (sF_40 hS) rfl dX10_tryCase_127 rfl ?_
      refine aw_iload (n := 132) (i := 4) dX10_tryCase_130 rfl rfl ?_
      obtain ⟨g_13, h⟩ := Ok.gd h
      refine aw_iaload (n := 133) hG.1 (sF_46 hS) (aIn_in g_13) dX10_tryCase_132 rfl ?_
      refine aw_icmp_eq (n := 136) (tgt := 137) dX10_tryCase_133 rfl (by decide) (fun c => ?_) (fun c => ?_)
      · replace h := Ok.ift h c
        obtain ⟨v4_14, e_v4_14, h⟩ := Ok.let_ h
        refine aw_iinc (n := 140) (al' := [some (.ref 79), some (.int v1), some (.int v2), some (.int v3), some (.int v4_14), none, some (.int y_9)]) dX10_tryCase_137 rfl rfl e_v4_14 (by decide) rfl ?_
        refine aw_goto (tgt := 3) dX10_tryCase_140 (by decide) ?_
        exact aw_le' (hL3 (v4_14, D_12) (Ok.dn h :)) ⟨rfl, ⟨rfl, ⟨rfl, ⟨rfl, ⟨rfl, trivial⟩⟩⟩⟩⟩
      · replace h := Ok.iff h c
        exact aw_le' (hJ_136 D_12 (Ok.el (hR3 (.inl (D_12)) (Ok.dn h :)) :)) trivial
    refine aw_iload (n := 5) (i := 4) dX10_tryCase_3 rfl rfl ?_
    refine aw_aload_n (n := 6) (i := 0) dX10_tryCase_5 rfl rfl rfl ?_
    refine aw_getR (n := 9) (j := 1) (r := 40) hG.1 fl_RX10_31 (sF_79 hS) rfl dX10_tryCase_6 rfl ?_
    refine aw_getI (n := 12) (j := 4) hG.1 fl_RX10_51 (sF_40 hS) rfl dX10_tryCase_9 rfl ?_
    refine aw_icmp_ge (n := 15) (tgt := 143) dX10_tryCase_12 rfl (by decide) (fun c => ?_) (fun c => ?_)
    · replace h := Ok.ift h c
      exact aw_le' (hJ_143 v1 v2 v3 D (Ok.er (hR3 (.inr (D)) (Ok.dn h :)) :)) ⟨rfl, ⟨rfl, ⟨rfl, ⟨rfl, trivial⟩⟩⟩⟩
    · replace h := Ok.iff h c
      refine aw_aload_n (n := 16) (i := 0) dX10_tryCase_15 rfl rfl rfl ?_
      refine aw_getR (n := 19) (j := 0) (r := 2) hG.1 fl_RX10_27 (sF_79 hS) rfl dX10_tryCase_16 rfl ?_
      refine aw_getR (n := 22) (j := 13) (r := 11) hG.1 fl_RX10_56 (sF_2 hS) rfl dX10_tryCase_19 rfl ?_
      refine aw_aload_n (n := 23) (i := 0) dX10_tryCase_22 rfl rfl rfl ?_
      refine aw_getR (n := 26) (j := 1) (r := 40) hG.1 fl_RX10_31 (sF_79 hS) rfl dX10_tryCase_23 rfl ?_
      refine aw_getR (n := 29) (j := 5) (r := 43) hG.1 fl_RX10_59 (sF_40 hS) rfl dX10_tryCase_26 rfl ?_
      refine aw_iload (n := 31) (i := 4) dX10_tryCase_29 rfl rfl ?_
      obtain ⟨g_4, h⟩ := Ok.gd h
      refine aw_iaload (n := 32) hG.1 (sF_43 hS) (aIn_in g_4) dX10_tryCase_31 rfl ?_
      obtain ⟨g_5, h⟩ := Ok.gd h
      refine aw_iaload (n := 33) hG.1 (sF_11 hS) (aIn_in g_5) dX10_tryCase_32 rfl ?_
      obtain ⟨v5_6, e_v5_6, h⟩ := Ok.let_ h
      refine aw_istore (n := 35) (i := 5) (al' := [some (.ref 79), some (.int v1), some (.int v2), some (.int v3), some (.int v4), some (.int v5_6), none]) dX10_tryCase_33 rfl e_v5_6 (by decide) rfl ?_
      refine aw_aload_n (n := 36) (i := 0) dX10_tryCase_35 rfl rfl rfl ?_
      refine aw_getR (n := 39) (j := 2) (r := 57) hG.1 fl_RX10_35 (sF_79 hS) rfl dX10_tryCase_36 rfl ?_
      refine aw_aload_n (n := 40) (i := 0) dX10_tryCase_39 rfl rfl rfl ?_
      refine aw_getR (n := 43) (j := 6) (r := 81) hG.1 fl_RX10_15 (sF_79 hS) rfl dX10_tryCase_40 rfl ?_
      refine aw_iload (n := 45) (i := 4) dX10_tryCase_43 rfl rfl ?_
      refine aw_cVv (M := M_X10_tryCase) (n := 48) (As := [.ref 81, .int v4]) (rest := []) hG.1 lk_RX10_95 rfl rfl (sF_57 hS) (c_X0_loadRaw hG hS (h := Ok.bind h) (sF_81 hS)) (by decide) (Nat.le_of_ble_eq_true rfl) (by decide) (by decide) dX10_tryCase_45 rfl (fun D_7 h => ?_)
      refine aw_iload_n (n := 49) (i := 2) dX10_tryCase_48 rfl rfl rfl ?_
      refine aw_iconst (n := 50) (v := (-1)) dX10_tryCase_49 rfl (by decide) ?_
      refine aw_icmp_eq (n := 53) (tgt := 95) dX10_tryCase_50 rfl (by decide) (fun c => ?_) (fun c => ?_)
      · replace h := Ok.ift h c
        exact aw_le' (hJ_95 v4 D_7 h) ⟨rfl, ⟨rfl, ⟨rfl, ⟨rfl, ⟨rfl, trivial⟩⟩⟩⟩⟩
      · replace h := Ok.iff h c
        refine aw_aload_n (n := 54) (i := 0) dX10_tryCase_53 rfl rfl rfl ?_
        refine aw_getR (n := 57) (j := 2) (r := 57) hG.1 fl_RX10_35 (sF_79 hS) rfl dX10_tryCase_54 rfl ?_
        refine aw_getR (n := 60) (j := 2) (r := 58) hG.1 fl_RX10_98 (sF_57 hS) rfl dX10_tryCase_57 rfl ?_
        refine aw_iload_n (n := 61) (i := 2) dX10_tryCase_60 rfl rfl rfl ?_
        refine aw_dup2 (n := 62) dX10_tryCase_61 rfl rfl rfl ?_
        obtain ⟨g_15, h⟩ := Ok.gd h
        refine aw_iaload (n := 63) hG.1 (sF_58 hS) (aIn_in g_15) dX10_tryCase_62 rfl ?_
        refine aw_aload_n (n := 64) (i := 0) dX10_tryCase_63 rfl rfl rfl ?_
        refine aw_getR (n := 67) (j := 0) (r := 2) hG.1 fl_RX10_27 (sF_79 hS) rfl dX10_tryCase_64 rfl ?_
        refine aw_iload_n (n := 68) (i := 2) dX10_tryCase_67 rfl rfl rfl ?_
        refine aw_iconst (n := 69) (v := 1) dX10_tryCase_68 rfl (by decide) ?_
        refine aw_iload_n (n := 70) (i := 3) dX10_tryCase_69 rfl rfl rfl ?_
        refine aw_iload (n := 72) (i := 5) dX10_tryCase_70 rfl rfl ?_
        refine aw_aload_n (n := 73) (i := 0) dX10_tryCase_72 rfl rfl rfl ?_
        refine aw_getR (n := 76) (j := 1) (r := 40) hG.1 fl_RX10_31 (sF_79 hS) rfl dX10_tryCase_73 rfl ?_
        refine aw_getI (n := 79) (j := 3) hG.1 fl_RX10_101 (sF_40 hS) rfl dX10_tryCase_76 rfl ?_
        refine aw_aload_n (n := 80) (i := 0) dX10_tryCase_79 rfl rfl rfl ?_
        refine aw_getR (n := 83) (j := 1) (r := 40) hG.1 fl_RX10_31 (sF_79 hS) rfl dX10_tryCase_80 rfl ?_
        refine aw_getR (n := 86) (j := 6) (r := 44) hG.1 fl_RX10_62 (sF_40 hS) rfl dX10_tryCase_83 rfl ?_
        refine aw_iload (n := 88) (i := 4) dX10_tryCase_86 rfl rfl ?_
        obtain ⟨g_16, h⟩ := Ok.gd h
        refine aw_iaload (n := 89) hG.1 (sF_44 hS) (aIn_in g_16) dX10_tryCase_88 rfl ?_
        refine aw_iload_n (n := 90) (i := 1) dX10_tryCase_89 rfl rfl rfl ?_
        refine aw_cVi (M := M_X10_tryCase) (n := 93) (As := [.int v2, .int 1, .int v3, .int v5_6, .int (gI D_7 40 3), .int (gI D_7 44 v4.toNatClampNeg), .int v1]) (rest := [.int (gI D_7 58 v2.toNatClampNeg), .int v2, .ref 58]) hG.1 lk_RX10_104 rfl rfl (sF_2 hS) (c_X6_scent hG hS (h := Ok.bi h)) (by decide) (Nat.le_of_ble_eq_true rfl) (by decide) (by decide) dX10_tryCase_90 rfl (fun y_17 D_18 h => ?_)
        refine aw_iadd (n := 94) dX10_tryCase_93 rfl ?_
        obtain ⟨g_19, h⟩ := Ok.gd h
        obtain ⟨D_20, e_D_20, h⟩ := Ok.let_ h
        refine aw_iastore (n := 95) hG.1 (sF_58 hS) (aIn_in g_19) e_D_20 dX10_tryCase_94 rfl ?_
        exact aw_le' (hJ_95 v4 D_20 h) ⟨rfl, ⟨rfl, ⟨rfl, ⟨rfl, ⟨rfl, trivial⟩⟩⟩⟩⟩
  refine aw_iconst (n := 1) (v := 0) dX10_tryCase_0 rfl (by decide) ?_
  refine aw_istore (n := 3) (i := 4) (al' := [some (.ref 79), some (.int v1), some (.int v2), some (.int v3), some (.int 0), none, none]) dX10_tryCase_1 rfl rfl (by decide) rfl ?_
  exact aw_le' (hJ_3 v1 v2 v3 0 D h) ⟨rfl, ⟨rfl, ⟨rfl, ⟨rfl, ⟨rfl, trivial⟩⟩⟩⟩⟩
theorem dX10_collectBy_0 : decode cX10_collectBy 0 = .ok (.iconst 0, 1) := by decide +kernel
theorem dX10_collectBy_1 : decode cX10_collectBy 1 = .ok (.istore_n 2, 1) := by decide +kernel
theorem dX10_collectBy_2 : decode cX10_collectBy 2 = .ok (.iload_n 2, 1) := by decide +kernel
theorem dX10_collectBy_3 : decode cX10_collectBy 3 = .ok (.aload_n 0, 1) := by decide +kernel
theorem dX10_collectBy_4 : decode cX10_collectBy 4 = .ok (.getfield 31, 3) := by decide +kernel
theorem dX10_collectBy_7 : decode cX10_collectBy 7 = .ok (.getfield 51, 3) := by decide +kernel
theorem dX10_collectBy_10 : decode cX10_collectBy 10 = .ok (.if_icmp .ge 57, 3) := by decide +kernel
theorem dX10_collectBy_13 : decode cX10_collectBy 13 = .ok (.aload_n 0, 1) := by decide +kernel
theorem dX10_collectBy_14 : decode cX10_collectBy 14 = .ok (.getfield 27, 3) := by decide +kernel
theorem dX10_collectBy_17 : decode cX10_collectBy 17 = .ok (.getfield 56, 3) := by decide +kernel
theorem dX10_collectBy_20 : decode cX10_collectBy 20 = .ok (.aload_n 0, 1) := by decide +kernel
theorem dX10_collectBy_21 : decode cX10_collectBy 21 = .ok (.getfield 31, 3) := by decide +kernel
theorem dX10_collectBy_24 : decode cX10_collectBy 24 = .ok (.getfield 59, 3) := by decide +kernel
theorem dX10_collectBy_27 : decode cX10_collectBy 27 = .ok (.iload_n 2, 1) := by decide +kernel
theorem dX10_collectBy_28 : decode cX10_collectBy 28 = .ok (.iaload, 1) := by decide +kernel
theorem dX10_collectBy_29 : decode cX10_collectBy 29 = .ok (.iaload, 1) := by decide +kernel
theorem dX10_collectBy_30 : decode cX10_collectBy 30 = .ok (.istore_n 3, 1) := by decide +kernel
theorem dX10_collectBy_31 : decode cX10_collectBy 31 = .ok (.aload_n 0, 1) := by decide +kernel
theorem dX10_collectBy_32 : decode cX10_collectBy 32 = .ok (.getfield 35, 3) := by decide +kernel
theorem dX10_collectBy_35 : decode cX10_collectBy 35 = .ok (.iload_n 3, 1) := by decide +kernel
theorem dX10_collectBy_36 : decode cX10_collectBy 36 = .ok (.aload_n 0, 1) := by decide +kernel
theorem dX10_collectBy_37 : decode cX10_collectBy 37 = .ok (.getfield 31, 3) := by decide +kernel
theorem dX10_collectBy_40 : decode cX10_collectBy 40 = .ok (.getfield 62, 3) := by decide +kernel
theorem dX10_collectBy_43 : decode cX10_collectBy 43 = .ok (.iload_n 2, 1) := by decide +kernel
theorem dX10_collectBy_44 : decode cX10_collectBy 44 = .ok (.iaload, 1) := by decide +kernel
theorem dX10_collectBy_45 : decode cX10_collectBy 45 = .ok (.iload_n 1, 1) := by decide +kernel
theorem dX10_collectBy_46 : decode cX10_collectBy 46 = .ok (.invokevirtual 65, 3) := by decide +kernel
theorem dX10_collectBy_49 : decode cX10_collectBy 49 = .ok (.aload_n 0, 1) := by decide +kernel
theorem dX10_collectBy_50 : decode cX10_collectBy 50 = .ok (.getfield 35, 3) := by decide +kernel
theorem dX10_collectBy_53 : decode cX10_collectBy 53 = .ok (.aload_n 0, 1) := by decide +kernel
theorem dX10_collectBy_54 : decode cX10_collectBy 54 = .ok (.getfield 15, 3) := by decide +kernel
theorem dX10_collectBy_57 : decode cX10_collectBy 57 = .ok (.iload_n 2, 1) := by decide +kernel
theorem dX10_collectBy_58 : decode cX10_collectBy 58 = .ok (.invokevirtual 71, 3) := by decide +kernel
theorem dX10_collectBy_61 : decode cX10_collectBy 61 = .ok (.iinc 2 1, 3) := by decide +kernel
theorem dX10_collectBy_64 : decode cX10_collectBy 64 = .ok (.goto (-62), 3) := by decide +kernel
theorem dX10_collectBy_67 : decode cX10_collectBy 67 = .ok (.aload_n 0, 1) := by decide +kernel
theorem dX10_collectBy_68 : decode cX10_collectBy 68 = .ok (.iload_n 1, 1) := by decide +kernel
theorem dX10_collectBy_69 : decode cX10_collectBy 69 = .ok (.iconst (-1), 1) := by decide +kernel
theorem dX10_collectBy_70 : decode cX10_collectBy 70 = .ok (.iconst 0, 1) := by decide +kernel
theorem dX10_collectBy_71 : decode cX10_collectBy 71 = .ok (.invokevirtual 75, 3) := by decide +kernel
theorem dX10_collectBy_74 : decode cX10_collectBy 74 = .ok (.iconst 0, 1) := by decide +kernel
theorem dX10_collectBy_75 : decode cX10_collectBy 75 = .ok (.istore_n 2, 1) := by decide +kernel
theorem dX10_collectBy_76 : decode cX10_collectBy 76 = .ok (.iload_n 2, 1) := by decide +kernel
theorem dX10_collectBy_77 : decode cX10_collectBy 77 = .ok (.aload_n 0, 1) := by decide +kernel
theorem dX10_collectBy_78 : decode cX10_collectBy 78 = .ok (.getfield 27, 3) := by decide +kernel
theorem dX10_collectBy_81 : decode cX10_collectBy 81 = .ok (.getfield 78, 3) := by decide +kernel
theorem dX10_collectBy_84 : decode cX10_collectBy 84 = .ok (.if_icmp .ge 53, 3) := by decide +kernel
theorem dX10_collectBy_87 : decode cX10_collectBy 87 = .ok (.iconst 0, 1) := by decide +kernel
theorem dX10_collectBy_88 : decode cX10_collectBy 88 = .ok (.istore_n 3, 1) := by decide +kernel
theorem dX10_collectBy_89 : decode cX10_collectBy 89 = .ok (.iload_n 3, 1) := by decide +kernel
theorem dX10_collectBy_90 : decode cX10_collectBy 90 = .ok (.aload_n 0, 1) := by decide +kernel
theorem dX10_collectBy_91 : decode cX10_collectBy 91 = .ok (.getfield 27, 3) := by decide +kernel
theorem dX10_collectBy_94 : decode cX10_collectBy 94 = .ok (.getfield 81, 3) := by decide +kernel
theorem dX10_collectBy_97 : decode cX10_collectBy 97 = .ok (.invokevirtual 85, 3) := by decide +kernel
theorem dX10_collectBy_100 : decode cX10_collectBy 100 = .ok (.if_icmp .ge 31, 3) := by decide +kernel
theorem dX10_collectBy_103 : decode cX10_collectBy 103 = .ok (.aload_n 0, 1) := by decide +kernel
theorem dX10_collectBy_104 : decode cX10_collectBy 104 = .ok (.getfield 27, 3) := by decide +kernel
theorem dX10_collectBy_107 : decode cX10_collectBy 107 = .ok (.getfield 81, 3) := by decide +kernel
theorem dX10_collectBy_110 : decode cX10_collectBy 110 = .ok (.getfield 91, 3) := by decide +kernel
theorem dX10_collectBy_113 : decode cX10_collectBy 113 = .ok (.iload_n 3, 1) := by decide +kernel
theorem dX10_collectBy_114 : decode cX10_collectBy 114 = .ok (.baload, 1) := by decide +kernel
theorem dX10_collectBy_115 : decode cX10_collectBy 115 = .ok (.ifCond .ne 10, 3) := by decide +kernel
theorem dX10_collectBy_118 : decode cX10_collectBy 118 = .ok (.aload_n 0, 1) := by decide +kernel
theorem dX10_collectBy_119 : decode cX10_collectBy 119 = .ok (.iload_n 1, 1) := by decide +kernel
theorem dX10_collectBy_120 : decode cX10_collectBy 120 = .ok (.iload_n 2, 1) := by decide +kernel
theorem dX10_collectBy_121 : decode cX10_collectBy 121 = .ok (.iload_n 3, 1) := by decide +kernel
theorem dX10_collectBy_122 : decode cX10_collectBy 122 = .ok (.invokevirtual 75, 3) := by decide +kernel
theorem dX10_collectBy_125 : decode cX10_collectBy 125 = .ok (.iinc 3 1, 3) := by decide +kernel
theorem dX10_collectBy_128 : decode cX10_collectBy 128 = .ok (.goto (-39), 3) := by decide +kernel
theorem dX10_collectBy_131 : decode cX10_collectBy 131 = .ok (.iinc 2 1, 3) := by decide +kernel
theorem dX10_collectBy_134 : decode cX10_collectBy 134 = .ok (.goto (-58), 3) := by decide +kernel
theorem dX10_collectBy_137 : decode cX10_collectBy 137 = .ok (.return_, 1) := by decide +kernel
def J_X10_collectBy_137 (D : aD) : Option (aD) :=
  some D
def J_X10_collectBy_131 (v1 : Int32) (v2 : Int32) (D : aD) : Option ((Int32 × aD) ⊕ ((aD))) :=
  aLet (v2 + 1) (fun v2_2 => some (.inl (v2_2, D)))
def B_X10_collectBy_89 (v1 : Int32) (v2 : Int32) (v3 : Int32) (D : aD) : Option ((Int32 × aD) ⊕ ((aD))) :=
  aBi (f_X4_cells D) (fun y_3 D_4 => if y_3 ≤ v3 then (some (.inr D_4)) else (aGd (aIn v3 64) (if gI D_4 6 v3.toNatClampNeg ≠ 0 then (aLet (v3 + 1) (fun v3_6 => some (.inl (v3_6, D_4)))) else ((f_X10_tryCase v1 v2 v3 D_4).bind (fun D_7 => aLet (v3 + 1) (fun v3_8 => some (.inl (v3_8, D_7))))))))
def J_X10_collectBy_89 (v1 : Int32) (v2 : Int32) (v3 : Int32) (D : aD) : Option ((Int32 × aD) ⊕ ((aD))) :=
  (aLp (fun s => B_X10_collectBy_89 v1 v2 s.1 s.2) (v3, D)).bind (fun r => J_X10_collectBy_131 v1 v2 r)
def B_X10_collectBy_76 (v1 : Int32) (v2 : Int32) (D : aD) : Option ((Int32 × aD) ⊕ ((aD))) :=
  if gI D 2 2 ≤ v2 then (some (.inr D)) else (J_X10_collectBy_89 v1 v2 0 D)
def J_X10_collectBy_76 (v1 : Int32) (v2 : Int32) (D : aD) : Option (aD) :=
  (aLp (fun s => B_X10_collectBy_76 v1 s.1 s.2) (v2, D)).bind (fun r => J_X10_collectBy_137 r)
def J_X10_collectBy_67 (v1 : Int32) (D : aD) : Option (aD) :=
  (f_X10_tryCase v1 (-1) 0 D).bind (fun D_1 => J_X10_collectBy_76 v1 0 D_1)
def B_X10_collectBy_2 (v1 : Int32) (v2 : Int32) (D : aD) : Option ((Int32 × aD) ⊕ ((aD))) :=
  if gI D 40 4 ≤ v2 then (some (.inr D)) else (aGd (aIn v2 12) (aGd (aIn (gI D 43 v2.toNatClampNeg) 5) (aLet (gI D 11 (gI D 43 v2.toNatClampNeg).toNatClampNeg) (fun v3_11 => aGd (aIn v2 12) ((f_X0_fill v3_11 (gI D 44 v2.toNatClampNeg) v1 D).bind (fun D_13 => (f_X0_saveRaw 81 72 v2 D_13).bind (fun D_14 => aLet (v2 + 1) (fun v2_15 => some (.inl (v2_15, D_14))))))))))
def J_X10_collectBy_2 (v1 : Int32) (v2 : Int32) (D : aD) : Option (aD) :=
  (aLp (fun s => B_X10_collectBy_2 v1 s.1 s.2) (v2, D)).bind (fun r => J_X10_collectBy_67 v1 r)
def f_X10_collectBy (v1 : Int32) (D : aD) : Option (aD) :=
  J_X10_collectBy_2 v1 0 D
set_option maxRecDepth 100000 in
set_option maxHeartbeats 800000 in
theorem c_X10_collectBy {G : aG} (hG : gOK G) {shp : List aSh} (hS : aShp shp) {fr : Option Nat} {v1 : Int32} {D : aD} {K : aD → Prop} (h : Ok (f_X10_collectBy v1 D) K) : AC G (aRm 5 0 0) M_X10_collectBy [.ref 79, .int v1] fr shp D (aQv shp K) := by
  unfold f_X10_collectBy at h
  refine AC.of (al := [some (.ref 79), some (.int v1), none, none]) (r := 2) (by decide) (Nat.le_of_ble_eq_true rfl) rfl ?_
  have hJ_137 : ∀ (D : aD), Ok (J_X10_collectBy_137 D) K → AW G (aRm 5 0 0) M_X10_collectBy fr 0 0 137 [none, none, none, none] [] shp D (aQv shp K) := by
    intro D h
    unfold J_X10_collectBy_137 at h
    exact aw_vret rfl (by decide) (by decide) dX10_collectBy_137 ⟨rfl, rfl, (Ok.dn h :)⟩
  have hJ_76 : ∀ (v1 : Int32) (v2 : Int32) (D : aD), Ok (J_X10_collectBy_76 v1 v2 D) K → AW G (aRm 5 0 0) M_X10_collectBy fr 0 0 76 [some (.ref 79), some (.int v1), some (.int v2), none] [] shp D (aQv shp K) := by
    intro v1 v2 D h
    unfold J_X10_collectBy_76 at h
    refine Ok.lp (P := fun s => AW G (aRm 5 0 0) M_X10_collectBy fr 0 0 76 [some (.ref 79), some (.int v1), some (.int (s.1)), none] [] shp s.2 (aQv shp K)) (fun s Kb76 hL76 hR76 h => ?_) (v2, D) (Ok.bind h)
    obtain ⟨v2, D⟩ := s
    replace h : Ok (B_X10_collectBy_76 v1 v2 D) Kb76 := h
    unfold B_X10_collectBy_76 at h
    have hJ_131 : ∀ (v2 : Int32) (D : aD), Ok (J_X10_collectBy_131 v1 v2 D) Kb76 → AW G (aRm 5 0 0) M_X10_collectBy fr 0 0 131 [some (.ref 79), some (.int v1), some (.int v2), none] [] shp D (aQv shp K) := by
      intro v2 D h
      unfold J_X10_collectBy_131 at h
      obtain ⟨v2_2, e_v2_2, h⟩ := Ok.let_ h
      refine aw_iinc (n := 134) (al' := [some (.ref 79), some (.int v1), some (.int v2_2), none]) dX10_collectBy_131 rfl rfl e_v2_2 (by decide) rfl ?_
      refine aw_goto (tgt := 76) dX10_collectBy_134 (by decide) ?_
      exact aw_le' (hL76 (v2_2, D) (Ok.dn h :)) ⟨rfl, ⟨rfl, ⟨rfl, trivial⟩⟩⟩
    have hJ_89 : ∀ (v2 : Int32) (v3 : Int32) (D : aD), Ok (J_X10_collectBy_89 v1 v2 v3 D) Kb76 → AW G (aRm 5 0 0) M_X10_collectBy fr 0 0 89 [some (.ref 79), some (.int v1), some (.int v2), some (.int v3)] [] shp D (aQv shp K) := by
      intro v2 v3 D h
      unfold J_X10_collectBy_89 at h
      refine Ok.lp (P := fun s => AW G (aRm 5 0 0) M_X10_collectBy fr 0 0 89 [some (.ref 79), some (.int v1), some (.int v2), some (.int (s.1))] [] shp s.2 (aQv shp K)) (fun s Kb89 hL89 hR89 h => ?_) (v3, D) (Ok.bind h)
      obtain ⟨v3, D⟩ := s
      replace h : Ok (B_X10_collectBy_89 v1 v2 v3 D) Kb89 := h
      unfold B_X10_collectBy_89 at h
      refine aw_iload_n (n := 90) (i := 3) dX10_collectBy_89 rfl rfl rfl ?_
      refine aw_aload_n (n := 91) (i := 0) dX10_collectBy_90 rfl rfl rfl ?_
      refine aw_getR (n := 94) (j := 0) (r := 2) hG.1 fl_RX10_27 (sF_79 hS) rfl dX10_collectBy_91 rfl ?_
      refine aw_getR (n := 97) (j := 0) (r := 3) hG.1 fl_RX10_81 (sF_2 hS) rfl dX10_collectBy_94 rfl ?_
      refine aw_cVi (M := M_X10_collectBy) (n := 100) (As := []) (rest := [.int v3]) hG.1 lk_RX10_85 rfl rfl (sF_3 hS) (c_X4_cells hG hS (h := Ok.bi h)) (by decide) (Nat.le_of_ble_eq_true rfl) (by decide) (by decide) dX10_collectBy_97 rfl (fun y_3 D_4 h => ?_)
      refine aw_icmp_ge (n := 103) (tgt := 131) dX10_collectBy_100 rfl (by decide) (fun c => ?_) (fun c => ?_)
      · replace h := Ok.ift h c
        exact aw_le' (hJ_131 v2 D_4 (hR89 D_4 (Ok.dn h :))) ⟨rfl, ⟨rfl, ⟨rfl, trivial⟩⟩⟩
      · replace h := Ok.iff h c
        refine aw_aload_n (n := 104) (i := 0) dX10_collectBy_103 rfl rfl rfl ?_
        refine aw_getR (n := 107) (j := 0) (r := 2) hG.1 fl_RX10_27 (sF_79 hS) rfl dX10_collectBy_104 rfl ?_
        refine aw_getR (n := 110) (j := 0) (r := 3) hG.1 fl_RX10_81 (sF_2 hS) rfl dX10_collectBy_107 rfl ?_
        refine aw_getR (n := 113) (j := 4) (r := 6) hG.1 fl_RX10_91 (sF_3 hS) rfl dX10_collectBy_110 rfl ?_
        refine aw_iload_n (n := 114) (i := 3) dX10_collectBy_113 rfl rfl rfl ?_
        obtain ⟨g_5, h⟩ := Ok.gd h
        refine aw_zaload (n := 115) hG.1 (sF_6 hS) (aIn_in g_5) dX10_collectBy_114 rfl ?_
        refine aw_if_ne (n := 118) (tgt := 125) dX10_collectBy_115 rfl (by decide) (fun c => ?_) (fun c => ?_)
        · replace h := Ok.ift h c
          obtain ⟨v3_6, e_v3_6, h⟩ := Ok.let_ h
          refine aw_iinc (n := 128) (al' := [some (.ref 79), some (.int v1), some (.int v2), some (.int v3_6)]) dX10_collectBy_125 rfl rfl e_v3_6 (by decide) rfl ?_
          refine aw_goto (tgt := 89) dX10_collectBy_128 (by decide) ?_
          exact aw_le' (hL89 (v3_6, D_4) (Ok.dn h :)) ⟨rfl, ⟨rfl, ⟨rfl, ⟨rfl, trivial⟩⟩⟩⟩
        · replace h := Ok.iffn h c
          refine aw_aload_n (n := 119) (i := 0) dX10_collectBy_118 rfl rfl rfl ?_
          refine aw_iload_n (n := 120) (i := 1) dX10_collectBy_119 rfl rfl rfl ?_
          refine aw_iload_n (n := 121) (i := 2) dX10_collectBy_120 rfl rfl rfl ?_
          refine aw_iload_n (n := 122) (i := 3) dX10_collectBy_121 rfl rfl rfl ?_
          refine aw_cVv (M := M_X10_collectBy) (n := 125) (As := [.int v1, .int v2, .int v3]) (rest := []) hG.1 lk_RX10_75 rfl rfl (sF_79 hS) (c_X10_tryCase hG hS (h := Ok.bind h)) (by decide) (Nat.le_of_ble_eq_true rfl) (by decide) (by decide) dX10_collectBy_122 rfl (fun D_7 h => ?_)
          obtain ⟨v3_8, e_v3_8, h⟩ := Ok.let_ h
          refine aw_iinc (n := 128) (al' := [some (.ref 79), some (.int v1), some (.int v2), some (.int v3_8)]) dX10_collectBy_125 rfl rfl e_v3_8 (by decide) rfl ?_
          refine aw_goto (tgt := 89) dX10_collectBy_128 (by decide) ?_
          exact aw_le' (hL89 (v3_8, D_7) (Ok.dn h :)) ⟨rfl, ⟨rfl, ⟨rfl, ⟨rfl, trivial⟩⟩⟩⟩
    refine aw_iload_n (n := 77) (i := 2) dX10_collectBy_76 rfl rfl rfl ?_
    refine aw_aload_n (n := 78) (i := 0) dX10_collectBy_77 rfl rfl rfl ?_
    refine aw_getR (n := 81) (j := 0) (r := 2) hG.1 fl_RX10_27 (sF_79 hS) rfl dX10_collectBy_78 rfl ?_
    refine aw_getI (n := 84) (j := 2) hG.1 fl_RX10_78 (sF_2 hS) rfl dX10_collectBy_81 rfl ?_
    refine aw_icmp_ge (n := 87) (tgt := 137) dX10_collectBy_84 rfl (by decide) (fun c => ?_) (fun c => ?_)
    · replace h := Ok.ift h c
      exact aw_le' (hJ_137 D (hR76 D (Ok.dn h :))) trivial
    · replace h := Ok.iff h c
      refine aw_iconst (n := 88) (v := 0) dX10_collectBy_87 rfl (by decide) ?_
      refine aw_istore_n (n := 89) (i := 3) (al' := [some (.ref 79), some (.int v1), some (.int v2), some (.int 0)]) dX10_collectBy_88 rfl rfl rfl (by decide) rfl ?_
      exact aw_le' (hJ_89 v2 0 D h) ⟨rfl, ⟨rfl, ⟨rfl, ⟨rfl, trivial⟩⟩⟩⟩
  have hJ_67 : ∀ (v1 : Int32) (D : aD), Ok (J_X10_collectBy_67 v1 D) K → AW G (aRm 5 0 0) M_X10_collectBy fr 0 0 67 [some (.ref 79), some (.int v1), none, none] [] shp D (aQv shp K) := by
    intro v1 D h
    unfold J_X10_collectBy_67 at h
    refine aw_aload_n (n := 68) (i := 0) dX10_collectBy_67 rfl rfl rfl ?_
    refine aw_iload_n (n := 69) (i := 1) dX10_collectBy_68 rfl rfl rfl ?_
    refine aw_iconst (n := 70) (v := (-1)) dX10_collectBy_69 rfl (by decide) ?_
    refine aw_iconst (n := 71) (v := 0) dX10_collectBy_70 rfl (by decide) ?_
    refine aw_cVv (M := M_X10_collectBy) (n := 74) (As := [.int v1, .int (-1), .int 0]) (rest := []) hG.1 lk_RX10_75 rfl rfl (sF_79 hS) (c_X10_tryCase hG hS (h := Ok.bind h)) (by decide) (Nat.le_of_ble_eq_true rfl) (by decide) (by decide) dX10_collectBy_71 rfl (fun D_1 h => ?_)
    refine aw_iconst (n := 75) (v := 0) dX10_collectBy_74 rfl (by decide) ?_
    refine aw_istore_n (n := 76) (i := 2) (al' := [some (.ref 79), some (.int v1), some (.int 0), none]) dX10_collectBy_75 rfl rfl rfl (by decide) rfl ?_
    exact aw_le' (hJ_76 v1 0 D_1 h) ⟨rfl, ⟨rfl, ⟨rfl, trivial⟩⟩⟩
  have hJ_2 : ∀ (v1 : Int32) (v2 : Int32) (D : aD), Ok (J_X10_collectBy_2 v1 v2 D) K → AW G (aRm 5 0 0) M_X10_collectBy fr 0 0 2 [some (.ref 79), some (.int v1), some (.int v2), none] [] shp D (aQv shp K) := by
    intro v1 v2 D h
    unfold J_X10_collectBy_2 at h
    refine Ok.lp (P := fun s => AW G (aRm 5 0 0) M_X10_collectBy fr 0 0 2 [some (.ref 79), some (.int v1), some (.int (s.1)), none] [] shp s.2 (aQv shp K)) (fun s Kb2 hL2 hR2 h => ?_) (v2, D) (Ok.bind h)
    obtain ⟨v2, D⟩ := s
    replace h : Ok (B_X10_collectBy_2 v1 v2 D) Kb2 := h
    unfold B_X10_collectBy_2 at h
    refine aw_iload_n (n := 3) (i := 2) dX10_collectBy_2 rfl rfl rfl ?_
    refine aw_aload_n (n := 4) (i := 0) dX10_collectBy_3 rfl rfl rfl ?_
    refine aw_getR (n := 7) (j := 1) (r := 40) hG.1 fl_RX10_31 (sF_79 hS) rfl dX10_collectBy_4 rfl ?_
    refine aw_getI (n := 10) (j := 4) hG.1 fl_RX10_51 (sF_40 hS) rfl dX10_collectBy_7 rfl ?_
    refine aw_icmp_ge (n := 13) (tgt := 67) dX10_collectBy_10 rfl (by decide) (fun c => ?_) (fun c => ?_)
    · replace h := Ok.ift h c
      exact aw_le' (hJ_67 v1 D (hR2 D (Ok.dn h :))) ⟨rfl, ⟨rfl, trivial⟩⟩
    · replace h := Ok.iff h c
      refine aw_aload_n (n := 14) (i := 0) dX10_collectBy_13 rfl rfl rfl ?_
      refine aw_getR (n := 17) (j := 0) (r := 2) hG.1 fl_RX10_27 (sF_79 hS) rfl dX10_collectBy_14 rfl ?_
      refine aw_getR (n := 20) (j := 13) (r := 11) hG.1 fl_RX10_56 (sF_2 hS) rfl dX10_collectBy_17 rfl ?_
      refine aw_aload_n (n := 21) (i := 0) dX10_collectBy_20 rfl rfl rfl ?_
      refine aw_getR (n := 24) (j := 1) (r := 40) hG.1 fl_RX10_31 (sF_79 hS) rfl dX10_collectBy_21 rfl ?_
      refine aw_getR (n := 27) (j := 5) (r := 43) hG.1 fl_RX10_59 (sF_40 hS) rfl dX10_collectBy_24 rfl ?_
      refine aw_iload_n (n := 28) (i := 2) dX10_collectBy_27 rfl rfl rfl ?_
      obtain ⟨g_9, h⟩ := Ok.gd h
      refine aw_iaload (n := 29) hG.1 (sF_43 hS) (aIn_in g_9) dX10_collectBy_28 rfl ?_
      obtain ⟨g_10, h⟩ := Ok.gd h
      refine aw_iaload (n := 30) hG.1 (sF_11 hS) (aIn_in g_10) dX10_collectBy_29 rfl ?_
      obtain ⟨v3_11, e_v3_11, h⟩ := Ok.let_ h
      refine aw_istore_n (n := 31) (i := 3) (al' := [some (.ref 79), some (.int v1), some (.int v2), some (.int v3_11)]) dX10_collectBy_30 rfl rfl e_v3_11 (by decide) rfl ?_
      refine aw_aload_n (n := 32) (i := 0) dX10_collectBy_31 rfl rfl rfl ?_
      refine aw_getR (n := 35) (j := 2) (r := 57) hG.1 fl_RX10_35 (sF_79 hS) rfl dX10_collectBy_32 rfl ?_
      refine aw_iload_n (n := 36) (i := 3) dX10_collectBy_35 rfl rfl rfl ?_
      refine aw_aload_n (n := 37) (i := 0) dX10_collectBy_36 rfl rfl rfl ?_
      refine aw_getR (n := 40) (j := 1) (r := 40) hG.1 fl_RX10_31 (sF_79 hS) rfl dX10_collectBy_37 rfl ?_
      refine aw_getR (n := 43) (j := 6) (r := 44) hG.1 fl_RX10_62 (sF_40 hS) rfl dX10_collectBy_40 rfl ?_
      refine aw_iload_n (n := 44) (i := 2) dX10_collectBy_43 rfl rfl rfl ?_
      obtain ⟨g_12, h⟩ := Ok.gd h
      refine aw_iaload (n := 45) hG.1 (sF_44 hS) (aIn_in g_12) dX10_collectBy_44 rfl ?_
      refine aw_iload_n (n := 46) (i := 1) dX10_collectBy_45 rfl rfl rfl ?_
      refine aw_cVv (M := M_X10_collectBy) (n := 49) (As := [.int v3_11, .int (gI D 44 v2.toNatClampNeg), .int v1]) (rest := []) hG.1 lk_RX10_65 rfl rfl (sF_57 hS) (c_X0_fill hG hS (h := Ok.bind h)) (by decide) (Nat.le_of_ble_eq_true rfl) (by decide) (by decide) dX10_collectBy_46 rfl (fun D_13 h => ?_)
      refine aw_aload_n (n := 50) (i := 0) dX10_collectBy_49 rfl rfl rfl ?_
      refine aw_getR (n := 53) (j := 2) (r := 57) hG.1 fl_RX10_35 (sF_79 hS) rfl dX10_collectBy_50 rfl ?_
      refine aw_aload_n (n := 54) (i := 0) dX10_collectBy_53 rfl rfl rfl ?_
      refine aw_getR (n := 57) (j := 6) (r := 81) hG.1 fl_RX10_15 (sF_79 hS) rfl dX10_collectBy_54 rfl ?_
      refine aw_iload_n (n := 58) (i := 2) dX10_collectBy_57 rfl rfl rfl ?_
      refine aw_cVv (M := M_X10_collectBy) (n := 61) (As := [.ref 81, .int v2]) (rest := []) hG.1 lk_RX10_71 rfl rfl (sF_57 hS) (c_X0_saveRaw hG hS (h := Ok.bind h) (sF_81 hS)) (by decide) (Nat.le_of_ble_eq_true rfl) (by decide) (by decide) dX10_collectBy_58 rfl (fun D_14 h => ?_)
      obtain ⟨v2_15, e_v2_15, h⟩ := Ok.let_ h
      refine aw_iinc (n := 64) (al' := [some (.ref 79), some (.int v1), some (.int v2_15), some (.int v3_11)]) dX10_collectBy_61 rfl rfl e_v2_15 (by decide) rfl ?_
      refine aw_goto (tgt := 2) dX10_collectBy_64 (by decide) ?_
      exact aw_le' (hL2 (v2_15, D_14) (Ok.dn h :)) ⟨rfl, ⟨rfl, ⟨rfl, trivial⟩⟩⟩
  refine aw_iconst (n := 1) (v := 0) dX10_collectBy_0 rfl (by decide) ?_
  refine aw_istore_n (n := 2) (i := 2) (al' := [some (.ref 79), some (.int v1), some (.int 0), none]) dX10_collectBy_1 rfl rfl rfl (by decide) rfl ?_
  exact aw_le' (hJ_2 v1 0 D h) ⟨rfl, ⟨rfl, ⟨rfl, trivial⟩⟩⟩
theorem dX10_collect_0 : decode cX10_collect 0 = .ok (.aload_n 0, 1) := by decide +kernel
theorem dX10_collect_1 : decode cX10_collect 1 = .ok (.iconst 0, 1) := by decide +kernel
theorem dX10_collect_2 : decode cX10_collect 2 = .ok (.putfield 39, 3) := by decide +kernel
theorem dX10_collect_5 : decode cX10_collect 5 = .ok (.iconst 0, 1) := by decide +kernel
theorem dX10_collect_6 : decode cX10_collect 6 = .ok (.istore_n 1, 1) := by decide +kernel
theorem dX10_collect_7 : decode cX10_collect 7 = .ok (.iload_n 1, 1) := by decide +kernel
theorem dX10_collect_8 : decode cX10_collect 8 = .ok (.iconst 5, 1) := by decide +kernel
theorem dX10_collect_9 : decode cX10_collect 9 = .ok (.if_icmp .ge 26, 3) := by decide +kernel
theorem dX10_collect_12 : decode cX10_collect 12 = .ok (.aload_n 0, 1) := by decide +kernel
theorem dX10_collect_13 : decode cX10_collect 13 = .ok (.getfield 27, 3) := by decide +kernel
theorem dX10_collect_16 : decode cX10_collect 16 = .ok (.getfield 43, 3) := by decide +kernel
theorem dX10_collect_19 : decode cX10_collect 19 = .ok (.iload_n 1, 1) := by decide +kernel
theorem dX10_collect_20 : decode cX10_collect 20 = .ok (.iaload, 1) := by decide +kernel
theorem dX10_collect_21 : decode cX10_collect 21 = .ok (.ifCond .le 8, 3) := by decide +kernel
theorem dX10_collect_24 : decode cX10_collect 24 = .ok (.aload_n 0, 1) := by decide +kernel
theorem dX10_collect_25 : decode cX10_collect 25 = .ok (.iload_n 1, 1) := by decide +kernel
theorem dX10_collect_26 : decode cX10_collect 26 = .ok (.invokevirtual 48, 3) := by decide +kernel
theorem dX10_collect_29 : decode cX10_collect 29 = .ok (.iinc 1 1, 3) := by decide +kernel
theorem dX10_collect_32 : decode cX10_collect 32 = .ok (.goto (-25), 3) := by decide +kernel
theorem dX10_collect_35 : decode cX10_collect 35 = .ok (.return_, 1) := by decide +kernel
def J_X10_collect_35 (D : aD) : Option (aD) :=
  some D
def B_X10_collect_7 (v1 : Int32) (D : aD) : Option ((Int32 × aD) ⊕ ((aD))) :=
  if 5 ≤ v1 then (some (.inr D)) else (aGd (aIn v1 5) (if gI D 14 v1.toNatClampNeg ≤ 0 then (aLet (v1 + 1) (fun v1_3 => some (.inl (v1_3, D)))) else ((f_X10_collectBy v1 D).bind (fun D_4 => aLet (v1 + 1) (fun v1_5 => some (.inl (v1_5, D_4)))))))
def J_X10_collect_7 (v1 : Int32) (D : aD) : Option (aD) :=
  (aLp (fun s => B_X10_collect_7 s.1 s.2) (v1, D)).bind (fun r => J_X10_collect_35 r)
def f_X10_collect (D : aD) : Option (aD) :=
  aLet (pI D 79 4 0) (fun D_1 => J_X10_collect_7 0 D_1)
set_option maxRecDepth 100000 in
set_option maxHeartbeats 800000 in
theorem c_X10_collect {G : aG} (hG : gOK G) {shp : List aSh} (hS : aShp shp) {fr : Option Nat} {D : aD} {K : aD → Prop} (h : Ok (f_X10_collect D) K) : AC G (aRm 6 0 0) M_X10_collect [.ref 79] fr shp D (aQv shp K) := by
  unfold f_X10_collect at h
  refine AC.of (al := [some (.ref 79), none]) (r := 1) (by decide) (Nat.le_of_ble_eq_true rfl) rfl ?_
  have hJ_35 : ∀ (D : aD), Ok (J_X10_collect_35 D) K → AW G (aRm 6 0 0) M_X10_collect fr 0 0 35 [none, none] [] shp D (aQv shp K) := by
    intro D h
    unfold J_X10_collect_35 at h
    exact aw_vret rfl (by decide) (by decide) dX10_collect_35 ⟨rfl, rfl, (Ok.dn h :)⟩
  have hJ_7 : ∀ (v1 : Int32) (D : aD), Ok (J_X10_collect_7 v1 D) K → AW G (aRm 6 0 0) M_X10_collect fr 0 0 7 [some (.ref 79), some (.int v1)] [] shp D (aQv shp K) := by
    intro v1 D h
    unfold J_X10_collect_7 at h
    refine Ok.lp (P := fun s => AW G (aRm 6 0 0) M_X10_collect fr 0 0 7 [some (.ref 79), some (.int (s.1))] [] shp s.2 (aQv shp K)) (fun s Kb7 hL7 hR7 h => ?_) (v1, D) (Ok.bind h)
    obtain ⟨v1, D⟩ := s
    replace h : Ok (B_X10_collect_7 v1 D) Kb7 := h
    unfold B_X10_collect_7 at h
    refine aw_iload_n (n := 8) (i := 1) dX10_collect_7 rfl rfl rfl ?_
    refine aw_iconst (n := 9) (v := 5) dX10_collect_8 rfl (by decide) ?_
    refine aw_icmp_ge (n := 12) (tgt := 35) dX10_collect_9 rfl (by decide) (fun c => ?_) (fun c => ?_)
    · replace h := Ok.ift h c
      exact aw_le' (hJ_35 D (hR7 D (Ok.dn h :))) trivial
    · replace h := Ok.iff h c
      refine aw_aload_n (n := 13) (i := 0) dX10_collect_12 rfl rfl rfl ?_
      refine aw_getR (n := 16) (j := 0) (r := 2) hG.1 fl_RX10_27 (sF_79 hS) rfl dX10_collect_13 rfl ?_
      refine aw_getR (n := 19) (j := 16) (r := 14) hG.1 fl_RX10_43 (sF_2 hS) rfl dX10_collect_16 rfl ?_
      refine aw_iload_n (n := 20) (i := 1) dX10_collect_19 rfl rfl rfl ?_
      obtain ⟨g_2, h⟩ := Ok.gd h
      refine aw_iaload (n := 21) hG.1 (sF_14 hS) (aIn_in g_2) dX10_collect_20 rfl ?_
      refine aw_if_le (n := 24) (tgt := 29) dX10_collect_21 rfl (by decide) (fun c => ?_) (fun c => ?_)
      · replace h := Ok.ift h c
        obtain ⟨v1_3, e_v1_3, h⟩ := Ok.let_ h
        refine aw_iinc (n := 32) (al' := [some (.ref 79), some (.int v1_3)]) dX10_collect_29 rfl rfl e_v1_3 (by decide) rfl ?_
        refine aw_goto (tgt := 7) dX10_collect_32 (by decide) ?_
        exact aw_le' (hL7 (v1_3, D) (Ok.dn h :)) ⟨rfl, ⟨rfl, trivial⟩⟩
      · replace h := Ok.iff h c
        refine aw_aload_n (n := 25) (i := 0) dX10_collect_24 rfl rfl rfl ?_
        refine aw_iload_n (n := 26) (i := 1) dX10_collect_25 rfl rfl rfl ?_
        refine aw_cVv (M := M_X10_collect) (n := 29) (As := [.int v1]) (rest := []) hG.1 lk_RX10_48 rfl rfl (sF_79 hS) (c_X10_collectBy hG hS (h := Ok.bind h)) (by decide) (Nat.le_of_ble_eq_true rfl) (by decide) (by decide) dX10_collect_26 rfl (fun D_4 h => ?_)
        obtain ⟨v1_5, e_v1_5, h⟩ := Ok.let_ h
        refine aw_iinc (n := 32) (al' := [some (.ref 79), some (.int v1_5)]) dX10_collect_29 rfl rfl e_v1_5 (by decide) rfl ?_
        refine aw_goto (tgt := 7) dX10_collect_32 (by decide) ?_
        exact aw_le' (hL7 (v1_5, D_4) (Ok.dn h :)) ⟨rfl, ⟨rfl, trivial⟩⟩
  refine aw_aload_n (n := 1) (i := 0) dX10_collect_0 rfl rfl rfl ?_
  refine aw_iconst (n := 2) (v := 0) dX10_collect_1 rfl (by decide) ?_
  obtain ⟨D_1, e_D_1, h⟩ := Ok.let_ h
  refine aw_putI (n := 5) (j := 4) hG.1 fl_RX10_39 (sF_79 hS) rfl e_D_1 dX10_collect_2 rfl ?_
  refine aw_iconst (n := 6) (v := 0) dX10_collect_5 rfl (by decide) ?_
  refine aw_istore_n (n := 7) (i := 1) (al' := [some (.ref 79), some (.int 0)]) dX10_collect_6 rfl rfl rfl (by decide) rfl ?_
  exact aw_le' (hJ_7 0 D_1 h) ⟨rfl, ⟨rfl, trivial⟩⟩
theorem dX10_numberOf_0 : decode cX10_numberOf 0 = .ok (.aload_n 0, 1) := by decide +kernel
theorem dX10_numberOf_1 : decode cX10_numberOf 1 = .ok (.getfield 11, 3) := by decide +kernel
theorem dX10_numberOf_4 : decode cX10_numberOf 4 = .ok (.iload_n 1, 1) := by decide +kernel
theorem dX10_numberOf_5 : decode cX10_numberOf 5 = .ok (.iaload, 1) := by decide +kernel
theorem dX10_numberOf_6 : decode cX10_numberOf 6 = .ok (.bipush 16, 2) := by decide +kernel
theorem dX10_numberOf_8 : decode cX10_numberOf 8 = .ok (.iushr, 1) := by decide +kernel
theorem dX10_numberOf_9 : decode cX10_numberOf 9 = .ok (.istore_n 2, 1) := by decide +kernel
theorem dX10_numberOf_10 : decode cX10_numberOf 10 = .ok (.aload_n 0, 1) := by decide +kernel
theorem dX10_numberOf_11 : decode cX10_numberOf 11 = .ok (.getfield 11, 3) := by decide +kernel
theorem dX10_numberOf_14 : decode cX10_numberOf 14 = .ok (.iload_n 1, 1) := by decide +kernel
theorem dX10_numberOf_15 : decode cX10_numberOf 15 = .ok (.iaload, 1) := by decide +kernel
theorem dX10_numberOf_16 : decode cX10_numberOf 16 = .ok (.bipush 8, 2) := by decide +kernel
theorem dX10_numberOf_18 : decode cX10_numberOf 18 = .ok (.iushr, 1) := by decide +kernel
theorem dX10_numberOf_19 : decode cX10_numberOf 19 = .ok (.sipush 255, 3) := by decide +kernel
theorem dX10_numberOf_22 : decode cX10_numberOf 22 = .ok (.iand, 1) := by decide +kernel
theorem dX10_numberOf_23 : decode cX10_numberOf 23 = .ok (.iconst 1, 1) := by decide +kernel
theorem dX10_numberOf_24 : decode cX10_numberOf 24 = .ok (.isub, 1) := by decide +kernel
theorem dX10_numberOf_25 : decode cX10_numberOf 25 = .ok (.istore_n 3, 1) := by decide +kernel
theorem dX10_numberOf_26 : decode cX10_numberOf 26 = .ok (.aload_n 0, 1) := by decide +kernel
theorem dX10_numberOf_27 : decode cX10_numberOf 27 = .ok (.getfield 11, 3) := by decide +kernel
theorem dX10_numberOf_30 : decode cX10_numberOf 30 = .ok (.iload_n 1, 1) := by decide +kernel
theorem dX10_numberOf_31 : decode cX10_numberOf 31 = .ok (.iaload, 1) := by decide +kernel
theorem dX10_numberOf_32 : decode cX10_numberOf 32 = .ok (.sipush 255, 3) := by decide +kernel
theorem dX10_numberOf_35 : decode cX10_numberOf 35 = .ok (.iand, 1) := by decide +kernel
theorem dX10_numberOf_36 : decode cX10_numberOf 36 = .ok (.istore 4, 2) := by decide +kernel
theorem dX10_numberOf_38 : decode cX10_numberOf 38 = .ok (.iload_n 2, 1) := by decide +kernel
theorem dX10_numberOf_39 : decode cX10_numberOf 39 = .ok (.sipush 1000, 3) := by decide +kernel
theorem dX10_numberOf_42 : decode cX10_numberOf 42 = .ok (.imul, 1) := by decide +kernel
theorem dX10_numberOf_43 : decode cX10_numberOf 43 = .ok (.iload_n 3, 1) := by decide +kernel
theorem dX10_numberOf_44 : decode cX10_numberOf 44 = .ok (.iconst (-1), 1) := by decide +kernel
theorem dX10_numberOf_45 : decode cX10_numberOf 45 = .ok (.if_icmp .ne 7, 3) := by decide +kernel
theorem dX10_numberOf_48 : decode cX10_numberOf 48 = .ok (.iconst 0, 1) := by decide +kernel
theorem dX10_numberOf_49 : decode cX10_numberOf 49 = .ok (.goto 20, 3) := by decide +kernel
theorem dX10_numberOf_52 : decode cX10_numberOf 52 = .ok (.iconst 1, 1) := by decide +kernel
theorem dX10_numberOf_53 : decode cX10_numberOf 53 = .ok (.aload_n 0, 1) := by decide +kernel
theorem dX10_numberOf_54 : decode cX10_numberOf 54 = .ok (.getfield 27, 3) := by decide +kernel
theorem dX10_numberOf_57 : decode cX10_numberOf 57 = .ok (.getfield 81, 3) := by decide +kernel
theorem dX10_numberOf_60 : decode cX10_numberOf 60 = .ok (.invokevirtual 85, 3) := by decide +kernel
theorem dX10_numberOf_63 : decode cX10_numberOf 63 = .ok (.iload_n 3, 1) := by decide +kernel
theorem dX10_numberOf_64 : decode cX10_numberOf 64 = .ok (.imul, 1) := by decide +kernel
theorem dX10_numberOf_65 : decode cX10_numberOf 65 = .ok (.iadd, 1) := by decide +kernel
theorem dX10_numberOf_66 : decode cX10_numberOf 66 = .ok (.iload 4, 2) := by decide +kernel
theorem dX10_numberOf_68 : decode cX10_numberOf 68 = .ok (.iadd, 1) := by decide +kernel
theorem dX10_numberOf_69 : decode cX10_numberOf 69 = .ok (.iadd, 1) := by decide +kernel
theorem dX10_numberOf_70 : decode cX10_numberOf 70 = .ok (.ireturn, 1) := by decide +kernel
def f_X10_numberOf (v1 : Int32) (D : aD) : Option (Int32 × aD) :=
  aGd (aIn v1 1925) (aLet (((gI D 80 v1.toNatClampNeg).toUInt32 >>> ((16 : Int32).toUInt32 &&& Int32.toUInt32 31)).toInt32) (fun v2_2 => aGd (aIn v1 1925) (aLet (((((gI D 80 v1.toNatClampNeg).toUInt32 >>> ((8 : Int32).toUInt32 &&& Int32.toUInt32 31)).toInt32) &&& 255) - 1) (fun v3_4 => aGd (aIn v1 1925) (aLet ((gI D 80 v1.toNatClampNeg) &&& 255) (fun v4_6 => if v3_4 ≠ (-1) then (aBi (f_X4_cells D) (fun y_7 D_8 => some ((v2_2 * 1000) + ((1 + (y_7 * v3_4)) + v4_6), D_8))) else (some ((v2_2 * 1000) + 0, D))))))))
set_option maxRecDepth 100000 in
set_option maxHeartbeats 800000 in
theorem c_X10_numberOf {G : aG} (hG : gOK G) {shp : List aSh} (hS : aShp shp) {fr : Option Nat} {v1 : Int32} {D : aD} {K : Int32 → aD → Prop} (h : Ok2 (f_X10_numberOf v1 D) K) : AC G (aRm 2 0 0) M_X10_numberOf [.ref 79, .int v1] fr shp D (aQi shp K) := by
  replace h := Ok2.ok h
  unfold f_X10_numberOf at h
  refine AC.of (al := [some (.ref 79), some (.int v1), none, none, none]) (r := 3) (by decide) (Nat.le_of_ble_eq_true rfl) rfl ?_
  refine aw_aload_n (n := 1) (i := 0) dX10_numberOf_0 rfl rfl rfl ?_
  refine aw_getR (n := 4) (j := 3) (r := 80) hG.1 fl_RX10_11 (sF_79 hS) rfl dX10_numberOf_1 rfl ?_
  refine aw_iload_n (n := 5) (i := 1) dX10_numberOf_4 rfl rfl rfl ?_
  obtain ⟨g_1, h⟩ := Ok.gd h
  refine aw_iaload (n := 6) hG.1 (sF_80 hS) (aIn_in g_1) dX10_numberOf_5 rfl ?_
  refine aw_bipush (n := 8) (v := 16) dX10_numberOf_6 rfl (by decide) ?_
  refine aw_iushr (n := 9) dX10_numberOf_8 rfl ?_
  obtain ⟨v2_2, e_v2_2, h⟩ := Ok.let_ h
  refine aw_istore_n (n := 10) (i := 2) (al' := [some (.ref 79), some (.int v1), some (.int v2_2), none, none]) dX10_numberOf_9 rfl rfl e_v2_2 (by decide) rfl ?_
  refine aw_aload_n (n := 11) (i := 0) dX10_numberOf_10 rfl rfl rfl ?_
  refine aw_getR (n := 14) (j := 3) (r := 80) hG.1 fl_RX10_11 (sF_79 hS) rfl dX10_numberOf_11 rfl ?_
  refine aw_iload_n (n := 15) (i := 1) dX10_numberOf_14 rfl rfl rfl ?_
  obtain ⟨g_3, h⟩ := Ok.gd h
  refine aw_iaload (n := 16) hG.1 (sF_80 hS) (aIn_in g_3) dX10_numberOf_15 rfl ?_
  refine aw_bipush (n := 18) (v := 8) dX10_numberOf_16 rfl (by decide) ?_
  refine aw_iushr (n := 19) dX10_numberOf_18 rfl ?_
  refine aw_sipush (n := 22) (v := 255) dX10_numberOf_19 rfl (by decide) ?_
  refine aw_iand (n := 23) dX10_numberOf_22 rfl ?_
  refine aw_iconst (n := 24) (v := 1) dX10_numberOf_23 rfl (by decide) ?_
  refine aw_isub (n := 25) dX10_numberOf_24 rfl ?_
  obtain ⟨v3_4, e_v3_4, h⟩ := Ok.let_ h
  refine aw_istore_n (n := 26) (i := 3) (al' := [some (.ref 79), some (.int v1), some (.int v2_2), some (.int v3_4), none]) dX10_numberOf_25 rfl rfl e_v3_4 (by decide) rfl ?_
  refine aw_aload_n (n := 27) (i := 0) dX10_numberOf_26 rfl rfl rfl ?_
  refine aw_getR (n := 30) (j := 3) (r := 80) hG.1 fl_RX10_11 (sF_79 hS) rfl dX10_numberOf_27 rfl ?_
  refine aw_iload_n (n := 31) (i := 1) dX10_numberOf_30 rfl rfl rfl ?_
  obtain ⟨g_5, h⟩ := Ok.gd h
  refine aw_iaload (n := 32) hG.1 (sF_80 hS) (aIn_in g_5) dX10_numberOf_31 rfl ?_
  refine aw_sipush (n := 35) (v := 255) dX10_numberOf_32 rfl (by decide) ?_
  refine aw_iand (n := 36) dX10_numberOf_35 rfl ?_
  obtain ⟨v4_6, e_v4_6, h⟩ := Ok.let_ h
  refine aw_istore (n := 38) (i := 4) (al' := [some (.ref 79), some (.int v1), some (.int v2_2), some (.int v3_4), some (.int v4_6)]) dX10_numberOf_36 rfl e_v4_6 (by decide) rfl ?_
  refine aw_iload_n (n := 39) (i := 2) dX10_numberOf_38 rfl rfl rfl ?_
  refine aw_sipush (n := 42) (v := 1000) dX10_numberOf_39 rfl (by decide) ?_
  refine aw_imul (n := 43) dX10_numberOf_42 rfl ?_
  refine aw_iload_n (n := 44) (i := 3) dX10_numberOf_43 rfl rfl rfl ?_
  refine aw_iconst (n := 45) (v := (-1)) dX10_numberOf_44 rfl (by decide) ?_
  refine aw_icmp_ne (n := 48) (tgt := 52) dX10_numberOf_45 rfl (by decide) (fun c => ?_) (fun c => ?_)
  · replace h := Ok.ift h c
    refine aw_iconst (n := 53) (v := 1) dX10_numberOf_52 rfl (by decide) ?_
    refine aw_aload_n (n := 54) (i := 0) dX10_numberOf_53 rfl rfl rfl ?_
    refine aw_getR (n := 57) (j := 0) (r := 2) hG.1 fl_RX10_27 (sF_79 hS) rfl dX10_numberOf_54 rfl ?_
    refine aw_getR (n := 60) (j := 0) (r := 3) hG.1 fl_RX10_81 (sF_2 hS) rfl dX10_numberOf_57 rfl ?_
    refine aw_cVi (M := M_X10_numberOf) (n := 63) (As := []) (rest := [.int 1, .int (v2_2 * 1000)]) hG.1 lk_RX10_85 rfl rfl (sF_3 hS) (c_X4_cells hG hS (h := Ok.bi h)) (by decide) (Nat.le_of_ble_eq_true rfl) (by decide) (by decide) dX10_numberOf_60 rfl (fun y_7 D_8 h => ?_)
    refine aw_iload_n (n := 64) (i := 3) dX10_numberOf_63 rfl rfl rfl ?_
    refine aw_imul (n := 65) dX10_numberOf_64 rfl ?_
    refine aw_iadd (n := 66) dX10_numberOf_65 rfl ?_
    refine aw_iload (n := 68) (i := 4) dX10_numberOf_66 rfl rfl ?_
    refine aw_iadd (n := 69) dX10_numberOf_68 rfl ?_
    refine aw_iadd (n := 70) dX10_numberOf_69 rfl ?_
    exact aw_iret rfl (by decide) (by decide) dX10_numberOf_70 ⟨_, rfl, rfl, (Ok.dn h :)⟩
  · replace h := Ok.iffn h c
    refine aw_iconst (n := 49) (v := 0) dX10_numberOf_48 rfl (by decide) ?_
    refine aw_goto (tgt := 69) dX10_numberOf_49 (by decide) ?_
    refine aw_iadd (n := 70) dX10_numberOf_69 rfl ?_
    exact aw_iret rfl (by decide) (by decide) dX10_numberOf_70 ⟨_, rfl, rfl, (Ok.dn h :)⟩
theorem dX5_clear_0 : decode cX5_clear 0 = .ok (.aload_n 0, 1) := by decide +kernel
theorem dX5_clear_1 : decode cX5_clear 1 = .ok (.getfield 9, 3) := by decide +kernel
theorem dX5_clear_4 : decode cX5_clear 4 = .ok (.iconst 0, 1) := by decide +kernel
theorem dX5_clear_5 : decode cX5_clear 5 = .ok (.invokestatic 26, 3) := by decide +kernel
theorem dX5_clear_8 : decode cX5_clear 8 = .ok (.aload_n 0, 1) := by decide +kernel
theorem dX5_clear_9 : decode cX5_clear 9 = .ok (.iconst 0, 1) := by decide +kernel
theorem dX5_clear_10 : decode cX5_clear 10 = .ok (.putfield 32, 3) := by decide +kernel
theorem dX5_clear_13 : decode cX5_clear 13 = .ok (.aload_n 0, 1) := by decide +kernel
theorem dX5_clear_14 : decode cX5_clear 14 = .ok (.iconst 0, 1) := by decide +kernel
theorem dX5_clear_15 : decode cX5_clear 15 = .ok (.putfield 36, 3) := by decide +kernel
theorem dX5_clear_18 : decode cX5_clear 18 = .ok (.return_, 1) := by decide +kernel
def f_X5_clear (D : aD) : Option (aD) :=
  (f_J7_fill_53178 83 1024 0 D).bind (fun D_1 => aLet (pI D_1 82 5 0) (fun D_2 => aLet (pI D_2 82 6 0) (fun D_3 => some D_3)))
set_option maxRecDepth 100000 in
set_option maxHeartbeats 800000 in
theorem c_X5_clear {G : aG} (hG : gOK G) {shp : List aSh} (hS : aShp shp) {fr : Option Nat} {D : aD} {K : aD → Prop} (h : Ok (f_X5_clear D) K) : AC G (aRm 2 0 0) M_X5_clear [.ref 82] fr shp D (aQv shp K) := by
  unfold f_X5_clear at h
  refine AC.of (al := [some (.ref 82)]) (r := 0) (by decide) (Nat.le_of_ble_eq_true rfl) rfl ?_
  refine aw_aload_n (n := 1) (i := 0) dX5_clear_0 rfl rfl rfl ?_
  refine aw_getR (n := 4) (j := 0) (r := 83) hG.1 fl_RX5_9 (sF_82 hS) rfl dX5_clear_1 rfl ?_
  refine aw_iconst (n := 5) (v := 0) dX5_clear_4 rfl (by decide) ?_
  refine aw_cSv (M := M_X5_clear) (n := 8) (As := [.ref 83, .int 0]) (rest := []) lk_RX5_26 rfl rfl (c_J7_fill_53178 hG (h := Ok.bind h) (sF_83 hS)) (by decide) (Nat.le_of_ble_eq_true rfl) (by decide) (by decide) dX5_clear_5 rfl (fun D_1 h => ?_)
  refine aw_aload_n (n := 9) (i := 0) dX5_clear_8 rfl rfl rfl ?_
  refine aw_iconst (n := 10) (v := 0) dX5_clear_9 rfl (by decide) ?_
  obtain ⟨D_2, e_D_2, h⟩ := Ok.let_ h
  refine aw_putI (n := 13) (j := 5) hG.1 fl_RX5_32 (sF_82 hS) rfl e_D_2 dX5_clear_10 rfl ?_
  refine aw_aload_n (n := 14) (i := 0) dX5_clear_13 rfl rfl rfl ?_
  refine aw_iconst (n := 15) (v := 0) dX5_clear_14 rfl (by decide) ?_
  obtain ⟨D_3, e_D_3, h⟩ := Ok.let_ h
  refine aw_putI (n := 18) (j := 6) hG.1 fl_RX5_36 (sF_82 hS) rfl e_D_3 dX5_clear_15 rfl ?_
  exact aw_vret rfl (by decide) (by decide) dX5_clear_18 ⟨rfl, rfl, (Ok.dn h :)⟩
theorem dX10_smellsFrom_0 : decode cX10_smellsFrom 0 = .ok (.lconst 0, 1) := by decide +kernel
theorem dX10_smellsFrom_1 : decode cX10_smellsFrom 1 = .ok (.lstore_n 2, 1) := by decide +kernel
theorem dX10_smellsFrom_2 : decode cX10_smellsFrom 2 = .ok (.iload_n 1, 1) := by decide +kernel
theorem dX10_smellsFrom_3 : decode cX10_smellsFrom 3 = .ok (.istore 4, 2) := by decide +kernel
theorem dX10_smellsFrom_5 : decode cX10_smellsFrom 5 = .ok (.iload 4, 2) := by decide +kernel
theorem dX10_smellsFrom_7 : decode cX10_smellsFrom 7 = .ok (.iload_n 1, 1) := by decide +kernel
theorem dX10_smellsFrom_8 : decode cX10_smellsFrom 8 = .ok (.iconst 3, 1) := by decide +kernel
theorem dX10_smellsFrom_9 : decode cX10_smellsFrom 9 = .ok (.iadd, 1) := by decide +kernel
theorem dX10_smellsFrom_10 : decode cX10_smellsFrom 10 = .ok (.if_icmp .ge 44, 3) := by decide +kernel
theorem dX10_smellsFrom_13 : decode cX10_smellsFrom 13 = .ok (.iload 4, 2) := by decide +kernel
theorem dX10_smellsFrom_15 : decode cX10_smellsFrom 15 = .ok (.aload_n 0, 1) := by decide +kernel
theorem dX10_smellsFrom_16 : decode cX10_smellsFrom 16 = .ok (.getfield 27, 3) := by decide +kernel
theorem dX10_smellsFrom_19 : decode cX10_smellsFrom 19 = .ok (.getfield 78, 3) := by decide +kernel
theorem dX10_smellsFrom_22 : decode cX10_smellsFrom 22 = .ok (.if_icmp .ge 32, 3) := by decide +kernel
theorem dX10_smellsFrom_25 : decode cX10_smellsFrom 25 = .ok (.lload_n 2, 1) := by decide +kernel
theorem dX10_smellsFrom_26 : decode cX10_smellsFrom 26 = .ok (.bipush 13, 2) := by decide +kernel
theorem dX10_smellsFrom_28 : decode cX10_smellsFrom 28 = .ok (.lshl, 1) := by decide +kernel
theorem dX10_smellsFrom_29 : decode cX10_smellsFrom 29 = .ok (.aload_n 0, 1) := by decide +kernel
theorem dX10_smellsFrom_30 : decode cX10_smellsFrom 30 = .ok (.getfield 35, 3) := by decide +kernel
theorem dX10_smellsFrom_33 : decode cX10_smellsFrom 33 = .ok (.aload_n 0, 1) := by decide +kernel
theorem dX10_smellsFrom_34 : decode cX10_smellsFrom 34 = .ok (.getfield 35, 3) := by decide +kernel
theorem dX10_smellsFrom_37 : decode cX10_smellsFrom 37 = .ok (.iload 4, 2) := by decide +kernel
theorem dX10_smellsFrom_39 : decode cX10_smellsFrom 39 = .ok (.invokevirtual 111, 3) := by decide +kernel
theorem dX10_smellsFrom_42 : decode cX10_smellsFrom 42 = .ok (.invokevirtual 115, 3) := by decide +kernel
theorem dX10_smellsFrom_45 : decode cX10_smellsFrom 45 = .ok (.i2l, 1) := by decide +kernel
theorem dX10_smellsFrom_46 : decode cX10_smellsFrom 46 = .ok (.lor, 1) := by decide +kernel
theorem dX10_smellsFrom_47 : decode cX10_smellsFrom 47 = .ok (.lstore_n 2, 1) := by decide +kernel
theorem dX10_smellsFrom_48 : decode cX10_smellsFrom 48 = .ok (.iinc 4 1, 3) := by decide +kernel
theorem dX10_smellsFrom_51 : decode cX10_smellsFrom 51 = .ok (.goto (-46), 3) := by decide +kernel
theorem dX10_smellsFrom_54 : decode cX10_smellsFrom 54 = .ok (.lload_n 2, 1) := by decide +kernel
theorem dX10_smellsFrom_55 : decode cX10_smellsFrom 55 = .ok (.lreturn, 1) := by decide +kernel
def J_X10_smellsFrom_54 (v2 : Int64) (D : aD) : Option (Int64 × aD) :=
  some (v2, D)
def B_X10_smellsFrom_5 (v1 : Int32) (v2 : Int64) (v4 : Int32) (D : aD) : Option ((Int64 × Int32 × aD) ⊕ ((Int64 × aD))) :=
  if v1 + 3 ≤ v4 then (some (.inr (v2, D))) else (if gI D 2 2 ≤ v4 then (some (.inr (v2, D))) else (aBi (f_X0_masked v4 D) (fun y_1 D_2 => aBi (f_X0_noticed y_1 D_2) (fun y_3 D_4 => aLet ((v2 <<< ((13 : Int32).toInt64 &&& 63)) ||| (y_3.toInt64)) (fun v2_5 => aLet (v4 + 1) (fun v4_6 => some (.inl (v2_5, v4_6, D_4))))))))
def J_X10_smellsFrom_5 (v1 : Int32) (v2 : Int64) (v4 : Int32) (D : aD) : Option (Int64 × aD) :=
  (aLp (fun s => B_X10_smellsFrom_5 v1 s.1 s.2.1 s.2.2) (v2, v4, D)).bind (fun r => J_X10_smellsFrom_54 (r.1) r.2)
def f_X10_smellsFrom (v1 : Int32) (D : aD) : Option (Int64 × aD) :=
  J_X10_smellsFrom_5 v1 0 v1 D
set_option maxRecDepth 100000 in
set_option maxHeartbeats 800000 in
theorem c_X10_smellsFrom {G : aG} (hG : gOK G) {shp : List aSh} (hS : aShp shp) {fr : Option Nat} {v1 : Int32} {D : aD} {K : Int64 → aD → Prop} (h : Ok2 (f_X10_smellsFrom v1 D) K) : AC G (aRm 2 0 0) M_X10_smellsFrom [.ref 79, .int v1] fr shp D (aQl shp K) := by
  replace h := Ok2.ok h
  unfold f_X10_smellsFrom at h
  refine AC.of (al := [some (.ref 79), some (.int v1), none, none, none]) (r := 3) (by decide) (Nat.le_of_ble_eq_true rfl) rfl ?_
  have hJ_54 : ∀ (v2 : Int64) (D : aD), Ok (J_X10_smellsFrom_54 v2 D) (fun r => K r.1 r.2) → AW G (aRm 2 0 0) M_X10_smellsFrom fr 0 0 54 [none, none, some (.long v2), none, none] [] shp D (aQl shp K) := by
    intro v2 D h
    unfold J_X10_smellsFrom_54 at h
    refine aw_lload_n (n := 55) (i := 2) dX10_smellsFrom_54 rfl rfl rfl ?_
    exact aw_lret rfl (by decide) (by decide) dX10_smellsFrom_55 ⟨_, rfl, rfl, (Ok.dn h :)⟩
  have hJ_5 : ∀ (v1 : Int32) (v2 : Int64) (v4 : Int32) (D : aD), Ok (J_X10_smellsFrom_5 v1 v2 v4 D) (fun r => K r.1 r.2) → AW G (aRm 2 0 0) M_X10_smellsFrom fr 0 0 5 [some (.ref 79), some (.int v1), some (.long v2), none, some (.int v4)] [] shp D (aQl shp K) := by
    intro v1 v2 v4 D h
    unfold J_X10_smellsFrom_5 at h
    refine Ok.lp (P := fun s => AW G (aRm 2 0 0) M_X10_smellsFrom fr 0 0 5 [some (.ref 79), some (.int v1), some (.long (s.1)), none, some (.int (s.2.1))] [] shp s.2.2 (aQl shp K)) (fun s Kb5 hL5 hR5 h => ?_) (v2, v4, D) (Ok.bind h)
    obtain ⟨v2, v4, D⟩ := s
    replace h : Ok (B_X10_smellsFrom_5 v1 v2 v4 D) Kb5 := h
    unfold B_X10_smellsFrom_5 at h
    refine aw_iload (n := 7) (i := 4) dX10_smellsFrom_5 rfl rfl ?_
    refine aw_iload_n (n := 8) (i := 1) dX10_smellsFrom_7 rfl rfl rfl ?_
    refine aw_iconst (n := 9) (v := 3) dX10_smellsFrom_8 rfl (by decide) ?_
    refine aw_iadd (n := 10) dX10_smellsFrom_9 rfl ?_
    refine aw_icmp_ge (n := 13) (tgt := 54) dX10_smellsFrom_10 rfl (by decide) (fun c => ?_) (fun c => ?_)
    · replace h := Ok.ift h c
      exact aw_le' (hJ_54 v2 D (hR5 (v2, D) (Ok.dn h :))) ⟨rfl, trivial⟩
    · replace h := Ok.iff h c
      refine aw_iload (n := 15) (i := 4) dX10_smellsFrom_13 rfl rfl ?_
      refine aw_aload_n (n := 16) (i := 0) dX10_smellsFrom_15 rfl rfl rfl ?_
      refine aw_getR (n := 19) (j := 0) (r := 2) hG.1 fl_RX10_27 (sF_79 hS) rfl dX10_smellsFrom_16 rfl ?_
      refine aw_getI (n := 22) (j := 2) hG.1 fl_RX10_78 (sF_2 hS) rfl dX10_smellsFrom_19 rfl ?_
      refine aw_icmp_ge (n := 25) (tgt := 54) dX10_smellsFrom_22 rfl (by decide) (fun c => ?_) (fun c => ?_)
      · replace h := Ok.ift h c
        exact aw_le' (hJ_54 v2 D (hR5 (v2, D) (Ok.dn h :))) ⟨rfl, trivial⟩
      · replace h := Ok.iff h c
        refine aw_lload_n (n := 26) (i := 2) dX10_smellsFrom_25 rfl rfl rfl ?_
        refine aw_bipush (n := 28) (v := 13) dX10_smellsFrom_26 rfl (by decide) ?_
        refine aw_lshl (n := 29) dX10_smellsFrom_28 rfl ?_
        refine aw_aload_n (n := 30) (i := 0) dX10_smellsFrom_29 rfl rfl rfl ?_
        refine aw_getR (n := 33) (j := 2) (r := 57) hG.1 fl_RX10_35 (sF_79 hS) rfl dX10_smellsFrom_30 rfl ?_
        refine aw_aload_n (n := 34) (i := 0) dX10_smellsFrom_33 rfl rfl rfl ?_
        refine aw_getR (n := 37) (j := 2) (r := 57) hG.1 fl_RX10_35 (sF_79 hS) rfl dX10_smellsFrom_34 rfl ?_
        refine aw_iload (n := 39) (i := 4) dX10_smellsFrom_37 rfl rfl ?_
        refine aw_cVi (M := M_X10_smellsFrom) (n := 42) (As := [.int v4]) (rest := [.ref 57, .long (v2 <<< ((13 : Int32).toInt64 &&& 63))]) hG.1 lk_RX10_111 rfl rfl (sF_57 hS) (c_X0_masked hG hS (h := Ok.bi h)) (by decide) (Nat.le_of_ble_eq_true rfl) (by decide) (by decide) dX10_smellsFrom_39 rfl (fun y_1 D_2 h => ?_)
        refine aw_cVi (M := M_X10_smellsFrom) (n := 45) (As := [.int y_1]) (rest := [.long (v2 <<< ((13 : Int32).toInt64 &&& 63))]) hG.1 lk_RX10_115 rfl rfl (sF_57 hS) (c_X0_noticed hG hS (h := Ok.bi h)) (by decide) (Nat.le_of_ble_eq_true rfl) (by decide) (by decide) dX10_smellsFrom_42 rfl (fun y_3 D_4 h => ?_)
        refine aw_i2l (n := 46) dX10_smellsFrom_45 rfl ?_
        refine aw_lor (n := 47) dX10_smellsFrom_46 rfl ?_
        obtain ⟨v2_5, e_v2_5, h⟩ := Ok.let_ h
        refine aw_lstore_n (n := 48) (i := 2) (al' := [some (.ref 79), some (.int v1), some (.long v2_5), none, some (.int v4)]) dX10_smellsFrom_47 rfl rfl e_v2_5 (by decide) rfl ?_
        obtain ⟨v4_6, e_v4_6, h⟩ := Ok.let_ h
        refine aw_iinc (n := 51) (al' := [some (.ref 79), some (.int v1), some (.long v2_5), none, some (.int v4_6)]) dX10_smellsFrom_48 rfl rfl e_v4_6 (by decide) rfl ?_
        refine aw_goto (tgt := 5) dX10_smellsFrom_51 (by decide) ?_
        exact aw_le' (hL5 (v2_5, v4_6, D_4) (Ok.dn h :)) ⟨rfl, ⟨rfl, ⟨rfl, ⟨rfl, trivial⟩⟩⟩⟩
  refine aw_lconst (n := 1) (v := 0) dX10_smellsFrom_0 rfl (by decide) ?_
  refine aw_lstore_n (n := 2) (i := 2) (al' := [some (.ref 79), some (.int v1), some (.long 0), none, none]) dX10_smellsFrom_1 rfl rfl rfl (by decide) rfl ?_
  refine aw_iload_n (n := 3) (i := 1) dX10_smellsFrom_2 rfl rfl rfl ?_
  refine aw_istore (n := 5) (i := 4) (al' := [some (.ref 79), some (.int v1), some (.long 0), none, some (.int v1)]) dX10_smellsFrom_3 rfl rfl (by decide) rfl ?_
  exact aw_le' (hJ_5 v1 0 v1 D h) ⟨rfl, ⟨rfl, ⟨rfl, ⟨rfl, trivial⟩⟩⟩⟩
theorem dX5_open_0 : decode cX5_open 0 = .ok (.aload_n 0, 1) := by decide +kernel
theorem dX5_open_1 : decode cX5_open 1 = .ok (.getfield 32, 3) := by decide +kernel
theorem dX5_open_4 : decode cX5_open 4 = .ok (.aload_n 0, 1) := by decide +kernel
theorem dX5_open_5 : decode cX5_open 5 = .ok (.getfield 20, 3) := by decide +kernel
theorem dX5_open_8 : decode cX5_open 8 = .ok (.arraylength, 1) := by decide +kernel
theorem dX5_open_9 : decode cX5_open 9 = .ok (.if_icmp .lt 5, 3) := by decide +kernel
theorem dX5_open_12 : decode cX5_open 12 = .ok (.iconst 0, 1) := by decide +kernel
theorem dX5_open_13 : decode cX5_open 13 = .ok (.ireturn, 1) := by decide +kernel
theorem dX5_open_14 : decode cX5_open 14 = .ok (.aload_n 0, 1) := by decide +kernel
theorem dX5_open_15 : decode cX5_open 15 = .ok (.getfield 13, 3) := by decide +kernel
theorem dX5_open_18 : decode cX5_open 18 = .ok (.aload_n 0, 1) := by decide +kernel
theorem dX5_open_19 : decode cX5_open 19 = .ok (.getfield 32, 3) := by decide +kernel
theorem dX5_open_22 : decode cX5_open 22 = .ok (.lload_n 2, 1) := by decide +kernel
theorem dX5_open_23 : decode cX5_open 23 = .ok (.lastore, 1) := by decide +kernel
theorem dX5_open_24 : decode cX5_open 24 = .ok (.aload_n 0, 1) := by decide +kernel
theorem dX5_open_25 : decode cX5_open 25 = .ok (.getfield 17, 3) := by decide +kernel
theorem dX5_open_28 : decode cX5_open 28 = .ok (.aload_n 0, 1) := by decide +kernel
theorem dX5_open_29 : decode cX5_open 29 = .ok (.getfield 32, 3) := by decide +kernel
theorem dX5_open_32 : decode cX5_open 32 = .ok (.lload 4, 2) := by decide +kernel
theorem dX5_open_34 : decode cX5_open 34 = .ok (.lastore, 1) := by decide +kernel
theorem dX5_open_35 : decode cX5_open 35 = .ok (.aload_n 0, 1) := by decide +kernel
theorem dX5_open_36 : decode cX5_open 36 = .ok (.getfield 20, 3) := by decide +kernel
theorem dX5_open_39 : decode cX5_open 39 = .ok (.aload_n 0, 1) := by decide +kernel
theorem dX5_open_40 : decode cX5_open 40 = .ok (.getfield 32, 3) := by decide +kernel
theorem dX5_open_43 : decode cX5_open 43 = .ok (.iconst 0, 1) := by decide +kernel
theorem dX5_open_44 : decode cX5_open 44 = .ok (.iastore, 1) := by decide +kernel
theorem dX5_open_45 : decode cX5_open 45 = .ok (.aload_n 0, 1) := by decide +kernel
theorem dX5_open_46 : decode cX5_open 46 = .ok (.getfield 23, 3) := by decide +kernel
theorem dX5_open_49 : decode cX5_open 49 = .ok (.aload_n 0, 1) := by decide +kernel
theorem dX5_open_50 : decode cX5_open 50 = .ok (.getfield 32, 3) := by decide +kernel
theorem dX5_open_53 : decode cX5_open 53 = .ok (.aload_n 0, 1) := by decide +kernel
theorem dX5_open_54 : decode cX5_open 54 = .ok (.getfield 9, 3) := by decide +kernel
theorem dX5_open_57 : decode cX5_open 57 = .ok (.iload_n 1, 1) := by decide +kernel
theorem dX5_open_58 : decode cX5_open 58 = .ok (.iaload, 1) := by decide +kernel
theorem dX5_open_59 : decode cX5_open 59 = .ok (.iastore, 1) := by decide +kernel
theorem dX5_open_60 : decode cX5_open 60 = .ok (.aload_n 0, 1) := by decide +kernel
theorem dX5_open_61 : decode cX5_open 61 = .ok (.dup, 1) := by decide +kernel
theorem dX5_open_62 : decode cX5_open 62 = .ok (.getfield 32, 3) := by decide +kernel
theorem dX5_open_65 : decode cX5_open 65 = .ok (.iconst 1, 1) := by decide +kernel
theorem dX5_open_66 : decode cX5_open 66 = .ok (.iadd, 1) := by decide +kernel
theorem dX5_open_67 : decode cX5_open 67 = .ok (.putfield 32, 3) := by decide +kernel
theorem dX5_open_70 : decode cX5_open 70 = .ok (.aload_n 0, 1) := by decide +kernel
theorem dX5_open_71 : decode cX5_open 71 = .ok (.getfield 9, 3) := by decide +kernel
theorem dX5_open_74 : decode cX5_open 74 = .ok (.iload_n 1, 1) := by decide +kernel
theorem dX5_open_75 : decode cX5_open 75 = .ok (.aload_n 0, 1) := by decide +kernel
theorem dX5_open_76 : decode cX5_open 76 = .ok (.getfield 32, 3) := by decide +kernel
theorem dX5_open_79 : decode cX5_open 79 = .ok (.iastore, 1) := by decide +kernel
theorem dX5_open_80 : decode cX5_open 80 = .ok (.aload_n 0, 1) := by decide +kernel
theorem dX5_open_81 : decode cX5_open 81 = .ok (.getfield 32, 3) := by decide +kernel
theorem dX5_open_84 : decode cX5_open 84 = .ok (.ireturn, 1) := by decide +kernel
def f_X5_open (v1 : Int32) (v2 : Int64) (v4 : Int64) (D : aD) : Option (Int32 × aD) :=
  if gI D 82 5 < 1925 then (aGd (aIn (gI D 82 5) 1925) (aLet (pJ D 84 (gI D 82 5).toNatClampNeg v2) (fun D_2 => aGd (aIn (gI D_2 82 5) 1925) (aLet (pJ D_2 85 (gI D_2 82 5).toNatClampNeg v4) (fun D_4 => aGd (aIn (gI D_4 82 5) 1925) (aLet (pI D_4 86 (gI D_4 82 5).toNatClampNeg 0) (fun D_6 => aGd (aIn v1 1024) (aGd (aIn (gI D_6 82 5) 1925) (aLet (pI D_6 87 (gI D_6 82 5).toNatClampNeg (gI D_6 83 v1.toNatClampNeg)) (fun D_9 => aLet (pI D_9 82 5 ((gI D_9 82 5) + 1)) (fun D_10 => aGd (aIn v1 1024) (aLet (pI D_10 83 v1.toNatClampNeg (gI D_10 82 5)) (fun D_12 => some (gI D_12 82 5, D_12)))))))))))))) else (some (0, D))
set_option maxRecDepth 100000 in
set_option maxHeartbeats 800000 in
theorem c_X5_open {G : aG} (hG : gOK G) {shp : List aSh} (hS : aShp shp) {fr : Option Nat} {v1 : Int32} {v2 : Int64} {v4 : Int64} {D : aD} {K : Int32 → aD → Prop} (h : Ok2 (f_X5_open v1 v2 v4 D) K) : AC G (aRm 1 0 0) M_X5_open [.ref 82, .int v1, .long v2, .long v4] fr shp D (aQi shp K) := by
  replace h := Ok2.ok h
  unfold f_X5_open at h
  refine AC.of (al := [some (.ref 82), some (.int v1), some (.long v2), none, some (.long v4), none]) (r := 0) (by decide) (Nat.le_of_ble_eq_true rfl) rfl ?_
  refine aw_aload_n (n := 1) (i := 0) dX5_open_0 rfl rfl rfl ?_
  refine aw_getI (n := 4) (j := 5) hG.1 fl_RX5_32 (sF_82 hS) rfl dX5_open_1 rfl ?_
  refine aw_aload_n (n := 5) (i := 0) dX5_open_4 rfl rfl rfl ?_
  refine aw_getR (n := 8) (j := 3) (r := 86) hG.1 fl_RX5_20 (sF_82 hS) rfl dX5_open_5 rfl ?_
  refine aw_alen (n := 9) (t := 1) (v := 1925) hG.1 rfl (sF_86 hS) (by decide) dX5_open_8 rfl ?_
  refine aw_icmp_lt (n := 12) (tgt := 14) dX5_open_9 rfl (by decide) (fun c => ?_) (fun c => ?_)
  · replace h := Ok.ift h c
    refine aw_aload_n (n := 15) (i := 0) dX5_open_14 rfl rfl rfl ?_
    refine aw_getR (n := 18) (j := 1) (r := 84) hG.1 fl_RX5_13 (sF_82 hS) rfl dX5_open_15 rfl ?_
    refine aw_aload_n (n := 19) (i := 0) dX5_open_18 rfl rfl rfl ?_
    refine aw_getI (n := 22) (j := 5) hG.1 fl_RX5_32 (sF_82 hS) rfl dX5_open_19 rfl ?_
    refine aw_lload_n (n := 23) (i := 2) dX5_open_22 rfl rfl rfl ?_
    obtain ⟨g_1, h⟩ := Ok.gd h
    obtain ⟨D_2, e_D_2, h⟩ := Ok.let_ h
    refine aw_lastore (n := 24) hG.1 (sF_84 hS) (aIn_in g_1) e_D_2 dX5_open_23 rfl ?_
    refine aw_aload_n (n := 25) (i := 0) dX5_open_24 rfl rfl rfl ?_
    refine aw_getR (n := 28) (j := 2) (r := 85) hG.1 fl_RX5_17 (sF_82 hS) rfl dX5_open_25 rfl ?_
    refine aw_aload_n (n := 29) (i := 0) dX5_open_28 rfl rfl rfl ?_
    refine aw_getI (n := 32) (j := 5) hG.1 fl_RX5_32 (sF_82 hS) rfl dX5_open_29 rfl ?_
    refine aw_lload (n := 34) (i := 4) dX5_open_32 rfl rfl ?_
    obtain ⟨g_3, h⟩ := Ok.gd h
    obtain ⟨D_4, e_D_4, h⟩ := Ok.let_ h
    refine aw_lastore (n := 35) hG.1 (sF_85 hS) (aIn_in g_3) e_D_4 dX5_open_34 rfl ?_
    refine aw_aload_n (n := 36) (i := 0) dX5_open_35 rfl rfl rfl ?_
    refine aw_getR (n := 39) (j := 3) (r := 86) hG.1 fl_RX5_20 (sF_82 hS) rfl dX5_open_36 rfl ?_
    refine aw_aload_n (n := 40) (i := 0) dX5_open_39 rfl rfl rfl ?_
    refine aw_getI (n := 43) (j := 5) hG.1 fl_RX5_32 (sF_82 hS) rfl dX5_open_40 rfl ?_
    refine aw_iconst (n := 44) (v := 0) dX5_open_43 rfl (by decide) ?_
    obtain ⟨g_5, h⟩ := Ok.gd h
    obtain ⟨D_6, e_D_6, h⟩ := Ok.let_ h
    refine aw_iastore (n := 45) hG.1 (sF_86 hS) (aIn_in g_5) e_D_6 dX5_open_44 rfl ?_
    refine aw_aload_n (n := 46) (i := 0) dX5_open_45 rfl rfl rfl ?_
    refine aw_getR (n := 49) (j := 4) (r := 87) hG.1 fl_RX5_23 (sF_82 hS) rfl dX5_open_46 rfl ?_
    refine aw_aload_n (n := 50) (i := 0) dX5_open_49 rfl rfl rfl ?_
    refine aw_getI (n := 53) (j := 5) hG.1 fl_RX5_32 (sF_82 hS) rfl dX5_open_50 rfl ?_
    refine aw_aload_n (n := 54) (i := 0) dX5_open_53 rfl rfl rfl ?_
    refine aw_getR (n := 57) (j := 0) (r := 83) hG.1 fl_RX5_9 (sF_82 hS) rfl dX5_open_54 rfl ?_
    refine aw_iload_n (n := 58) (i := 1) dX5_open_57 rfl rfl rfl ?_
    obtain ⟨g_7, h⟩ := Ok.gd h
    refine aw_iaload (n := 59) hG.1 (sF_83 hS) (aIn_in g_7) dX5_open_58 rfl ?_
    obtain ⟨g_8, h⟩ := Ok.gd h
    obtain ⟨D_9, e_D_9, h⟩ := Ok.let_ h
    refine aw_iastore (n := 60) hG.1 (sF_87 hS) (aIn_in g_8) e_D_9 dX5_open_59 rfl ?_
    refine aw_aload_n (n := 61) (i := 0) dX5_open_60 rfl rfl rfl ?_
    refine aw_dup (n := 62) dX5_open_61 rfl rfl ?_
    refine aw_getI (n := 65) (j := 5) hG.1 fl_RX5_32 (sF_82 hS) rfl dX5_open_62 rfl ?_
    refine aw_iconst (n := 66) (v := 1) dX5_open_65 rfl (by decide) ?_
    refine aw_iadd (n := 67) dX5_open_66 rfl ?_
    obtain ⟨D_10, e_D_10, h⟩ := Ok.let_ h
    refine aw_putI (n := 70) (j := 5) hG.1 fl_RX5_32 (sF_82 hS) rfl e_D_10 dX5_open_67 rfl ?_
    refine aw_aload_n (n := 71) (i := 0) dX5_open_70 rfl rfl rfl ?_
    refine aw_getR (n := 74) (j := 0) (r := 83) hG.1 fl_RX5_9 (sF_82 hS) rfl dX5_open_71 rfl ?_
    refine aw_iload_n (n := 75) (i := 1) dX5_open_74 rfl rfl rfl ?_
    refine aw_aload_n (n := 76) (i := 0) dX5_open_75 rfl rfl rfl ?_
    refine aw_getI (n := 79) (j := 5) hG.1 fl_RX5_32 (sF_82 hS) rfl dX5_open_76 rfl ?_
    obtain ⟨g_11, h⟩ := Ok.gd h
    obtain ⟨D_12, e_D_12, h⟩ := Ok.let_ h
    refine aw_iastore (n := 80) hG.1 (sF_83 hS) (aIn_in g_11) e_D_12 dX5_open_79 rfl ?_
    refine aw_aload_n (n := 81) (i := 0) dX5_open_80 rfl rfl rfl ?_
    refine aw_getI (n := 84) (j := 5) hG.1 fl_RX5_32 (sF_82 hS) rfl dX5_open_81 rfl ?_
    exact aw_iret rfl (by decide) (by decide) dX5_open_84 ⟨_, rfl, rfl, (Ok.dn h :)⟩
  · replace h := Ok.iff h c
    refine aw_iconst (n := 13) (v := 0) dX5_open_12 rfl (by decide) ?_
    exact aw_iret rfl (by decide) (by decide) dX5_open_13 ⟨_, rfl, rfl, (Ok.dn h :)⟩
theorem dX5_isAt_0 : decode cX5_isAt 0 = .ok (.aload_n 0, 1) := by decide +kernel
theorem dX5_isAt_1 : decode cX5_isAt 1 = .ok (.getfield 13, 3) := by decide +kernel
theorem dX5_isAt_4 : decode cX5_isAt 4 = .ok (.iload_n 1, 1) := by decide +kernel
theorem dX5_isAt_5 : decode cX5_isAt 5 = .ok (.laload, 1) := by decide +kernel
theorem dX5_isAt_6 : decode cX5_isAt 6 = .ok (.lload_n 2, 1) := by decide +kernel
theorem dX5_isAt_7 : decode cX5_isAt 7 = .ok (.lcmp, 1) := by decide +kernel
theorem dX5_isAt_8 : decode cX5_isAt 8 = .ok (.ifCond .ne 19, 3) := by decide +kernel
theorem dX5_isAt_11 : decode cX5_isAt 11 = .ok (.aload_n 0, 1) := by decide +kernel
theorem dX5_isAt_12 : decode cX5_isAt 12 = .ok (.getfield 17, 3) := by decide +kernel
theorem dX5_isAt_15 : decode cX5_isAt 15 = .ok (.iload_n 1, 1) := by decide +kernel
theorem dX5_isAt_16 : decode cX5_isAt 16 = .ok (.laload, 1) := by decide +kernel
theorem dX5_isAt_17 : decode cX5_isAt 17 = .ok (.lload 4, 2) := by decide +kernel
theorem dX5_isAt_19 : decode cX5_isAt 19 = .ok (.lcmp, 1) := by decide +kernel
theorem dX5_isAt_20 : decode cX5_isAt 20 = .ok (.ifCond .ne 7, 3) := by decide +kernel
theorem dX5_isAt_23 : decode cX5_isAt 23 = .ok (.iconst 1, 1) := by decide +kernel
theorem dX5_isAt_24 : decode cX5_isAt 24 = .ok (.goto 4, 3) := by decide +kernel
theorem dX5_isAt_27 : decode cX5_isAt 27 = .ok (.iconst 0, 1) := by decide +kernel
theorem dX5_isAt_28 : decode cX5_isAt 28 = .ok (.ireturn, 1) := by decide +kernel
def f_X5_isAt (v1 : Int32) (v2 : Int64) (v4 : Int64) (D : aD) : Option (Int32 × aD) :=
  aGd (aIn v1 1925) (if lg_cmp (gJ D 84 v1.toNatClampNeg) v2 ≠ 0 then (some (0, D)) else (aGd (aIn v1 1925) (if lg_cmp (gJ D 85 v1.toNatClampNeg) v4 ≠ 0 then (some (0, D)) else (some (1, D)))))
set_option maxRecDepth 100000 in
set_option maxHeartbeats 800000 in
theorem c_X5_isAt {G : aG} (hG : gOK G) {shp : List aSh} (hS : aShp shp) {fr : Option Nat} {v1 : Int32} {v2 : Int64} {v4 : Int64} {D : aD} {K : Int32 → aD → Prop} (h : Ok2 (f_X5_isAt v1 v2 v4 D) K) : AC G (aRm 1 0 0) M_X5_isAt [.ref 82, .int v1, .long v2, .long v4] fr shp D (aQi shp K) := by
  replace h := Ok2.ok h
  unfold f_X5_isAt at h
  refine AC.of (al := [some (.ref 82), some (.int v1), some (.long v2), none, some (.long v4), none]) (r := 0) (by decide) (Nat.le_of_ble_eq_true rfl) rfl ?_
  refine aw_aload_n (n := 1) (i := 0) dX5_isAt_0 rfl rfl rfl ?_
  refine aw_getR (n := 4) (j := 1) (r := 84) hG.1 fl_RX5_13 (sF_82 hS) rfl dX5_isAt_1 rfl ?_
  refine aw_iload_n (n := 5) (i := 1) dX5_isAt_4 rfl rfl rfl ?_
  obtain ⟨g_1, h⟩ := Ok.gd h
  refine aw_laload (n := 6) hG.1 (sF_84 hS) (aIn_in g_1) dX5_isAt_5 rfl ?_
  refine aw_lload_n (n := 7) (i := 2) dX5_isAt_6 rfl rfl rfl ?_
  refine aw_lcmp (n := 8) dX5_isAt_7 rfl ?_
  refine aw_if_ne (n := 11) (tgt := 27) dX5_isAt_8 rfl (by decide) (fun c => ?_) (fun c => ?_)
  · replace h := Ok.ift h c
    refine aw_iconst (n := 28) (v := 0) dX5_isAt_27 rfl (by decide) ?_
    exact aw_zret rfl (by decide) (by decide) (by decide) dX5_isAt_28 ⟨_, rfl, rfl, (Ok.dn h :)⟩
  · replace h := Ok.iffn h c
    refine aw_aload_n (n := 12) (i := 0) dX5_isAt_11 rfl rfl rfl ?_
    refine aw_getR (n := 15) (j := 2) (r := 85) hG.1 fl_RX5_17 (sF_82 hS) rfl dX5_isAt_12 rfl ?_
    refine aw_iload_n (n := 16) (i := 1) dX5_isAt_15 rfl rfl rfl ?_
    obtain ⟨g_2, h⟩ := Ok.gd h
    refine aw_laload (n := 17) hG.1 (sF_85 hS) (aIn_in g_2) dX5_isAt_16 rfl ?_
    refine aw_lload (n := 19) (i := 4) dX5_isAt_17 rfl rfl ?_
    refine aw_lcmp (n := 20) dX5_isAt_19 rfl ?_
    refine aw_if_ne (n := 23) (tgt := 27) dX5_isAt_20 rfl (by decide) (fun c => ?_) (fun c => ?_)
    · replace h := Ok.ift h c
      refine aw_iconst (n := 28) (v := 0) dX5_isAt_27 rfl (by decide) ?_
      exact aw_zret rfl (by decide) (by decide) (by decide) dX5_isAt_28 ⟨_, rfl, rfl, (Ok.dn h :)⟩
    · replace h := Ok.iffn h c
      refine aw_iconst (n := 24) (v := 1) dX5_isAt_23 rfl (by decide) ?_
      refine aw_goto (tgt := 28) dX5_isAt_24 (by decide) ?_
      exact aw_zret rfl (by decide) (by decide) (by decide) dX5_isAt_28 ⟨_, rfl, rfl, (Ok.dn h :)⟩
theorem dX5_add_0 : decode cX5_add 0 = .ok (.lload_n 1, 1) := by decide +kernel
theorem dX5_add_1 : decode cX5_add 1 = .ok (.ldc2_w 39, 3) := by decide +kernel
theorem dX5_add_4 : decode cX5_add 4 = .ok (.lmul, 1) := by decide +kernel
theorem dX5_add_5 : decode cX5_add 5 = .ok (.lload_n 3, 1) := by decide +kernel
theorem dX5_add_6 : decode cX5_add 6 = .ok (.ladd, 1) := by decide +kernel
theorem dX5_add_7 : decode cX5_add 7 = .ok (.lstore 5, 2) := by decide +kernel
theorem dX5_add_9 : decode cX5_add 9 = .ok (.lload 5, 2) := by decide +kernel
theorem dX5_add_11 : decode cX5_add 11 = .ok (.lload 5, 2) := by decide +kernel
theorem dX5_add_13 : decode cX5_add 13 = .ok (.bipush 10, 2) := by decide +kernel
theorem dX5_add_15 : decode cX5_add 15 = .ok (.lushr, 1) := by decide +kernel
theorem dX5_add_16 : decode cX5_add 16 = .ok (.lxor, 1) := by decide +kernel
theorem dX5_add_17 : decode cX5_add 17 = .ok (.lload 5, 2) := by decide +kernel
theorem dX5_add_19 : decode cX5_add 19 = .ok (.bipush 20, 2) := by decide +kernel
theorem dX5_add_21 : decode cX5_add 21 = .ok (.lushr, 1) := by decide +kernel
theorem dX5_add_22 : decode cX5_add 22 = .ok (.lxor, 1) := by decide +kernel
theorem dX5_add_23 : decode cX5_add 23 = .ok (.lload 5, 2) := by decide +kernel
theorem dX5_add_25 : decode cX5_add 25 = .ok (.bipush 30, 2) := by decide +kernel
theorem dX5_add_27 : decode cX5_add 27 = .ok (.lushr, 1) := by decide +kernel
theorem dX5_add_28 : decode cX5_add 28 = .ok (.lxor, 1) := by decide +kernel
theorem dX5_add_29 : decode cX5_add 29 = .ok (.l2i, 1) := by decide +kernel
theorem dX5_add_30 : decode cX5_add 30 = .ok (.sipush 1023, 3) := by decide +kernel
theorem dX5_add_33 : decode cX5_add 33 = .ok (.iand, 1) := by decide +kernel
theorem dX5_add_34 : decode cX5_add 34 = .ok (.istore 7, 2) := by decide +kernel
theorem dX5_add_36 : decode cX5_add 36 = .ok (.aload_n 0, 1) := by decide +kernel
theorem dX5_add_37 : decode cX5_add 37 = .ok (.getfield 9, 3) := by decide +kernel
theorem dX5_add_40 : decode cX5_add 40 = .ok (.iload 7, 2) := by decide +kernel
theorem dX5_add_42 : decode cX5_add 42 = .ok (.iaload, 1) := by decide +kernel
theorem dX5_add_43 : decode cX5_add 43 = .ok (.istore 8, 2) := by decide +kernel
theorem dX5_add_45 : decode cX5_add 45 = .ok (.iconst 0, 1) := by decide +kernel
theorem dX5_add_46 : decode cX5_add 46 = .ok (.istore 9, 2) := by decide +kernel
theorem dX5_add_48 : decode cX5_add 48 = .ok (.iload 9, 2) := by decide +kernel
theorem dX5_add_50 : decode cX5_add 50 = .ok (.aload_n 0, 1) := by decide +kernel
theorem dX5_add_51 : decode cX5_add 51 = .ok (.getfield 32, 3) := by decide +kernel
theorem dX5_add_54 : decode cX5_add 54 = .ok (.if_icmp .ge 38, 3) := by decide +kernel
theorem dX5_add_57 : decode cX5_add 57 = .ok (.iload 8, 2) := by decide +kernel
theorem dX5_add_59 : decode cX5_add 59 = .ok (.ifCond .le 33, 3) := by decide +kernel
theorem dX5_add_62 : decode cX5_add 62 = .ok (.aload_n 0, 1) := by decide +kernel
theorem dX5_add_63 : decode cX5_add 63 = .ok (.iload 8, 2) := by decide +kernel
theorem dX5_add_65 : decode cX5_add 65 = .ok (.iconst 1, 1) := by decide +kernel
theorem dX5_add_66 : decode cX5_add 66 = .ok (.isub, 1) := by decide +kernel
theorem dX5_add_67 : decode cX5_add 67 = .ok (.lload_n 1, 1) := by decide +kernel
theorem dX5_add_68 : decode cX5_add 68 = .ok (.lload_n 3, 1) := by decide +kernel
theorem dX5_add_69 : decode cX5_add 69 = .ok (.invokevirtual 41, 3) := by decide +kernel
theorem dX5_add_72 : decode cX5_add 72 = .ok (.ifCond .ne 20, 3) := by decide +kernel
theorem dX5_add_75 : decode cX5_add 75 = .ok (.aload_n 0, 1) := by decide +kernel
theorem dX5_add_76 : decode cX5_add 76 = .ok (.getfield 23, 3) := by decide +kernel
theorem dX5_add_79 : decode cX5_add 79 = .ok (.iload 8, 2) := by decide +kernel
theorem dX5_add_81 : decode cX5_add 81 = .ok (.iconst 1, 1) := by decide +kernel
theorem dX5_add_82 : decode cX5_add 82 = .ok (.isub, 1) := by decide +kernel
theorem dX5_add_83 : decode cX5_add 83 = .ok (.iaload, 1) := by decide +kernel
theorem dX5_add_84 : decode cX5_add 84 = .ok (.istore 8, 2) := by decide +kernel
theorem dX5_add_86 : decode cX5_add 86 = .ok (.iinc 9 1, 3) := by decide +kernel
theorem dX5_add_89 : decode cX5_add 89 = .ok (.goto (-41), 3) := by decide +kernel
theorem dX5_add_92 : decode cX5_add 92 = .ok (.iload 8, 2) := by decide +kernel
theorem dX5_add_94 : decode cX5_add 94 = .ok (.ifCond .ne 13, 3) := by decide +kernel
theorem dX5_add_97 : decode cX5_add 97 = .ok (.aload_n 0, 1) := by decide +kernel
theorem dX5_add_98 : decode cX5_add 98 = .ok (.iload 7, 2) := by decide +kernel
theorem dX5_add_100 : decode cX5_add 100 = .ok (.lload_n 1, 1) := by decide +kernel
theorem dX5_add_101 : decode cX5_add 101 = .ok (.lload_n 3, 1) := by decide +kernel
theorem dX5_add_102 : decode cX5_add 102 = .ok (.invokevirtual 45, 3) := by decide +kernel
theorem dX5_add_105 : decode cX5_add 105 = .ok (.istore 8, 2) := by decide +kernel
theorem dX5_add_107 : decode cX5_add 107 = .ok (.iload 8, 2) := by decide +kernel
theorem dX5_add_109 : decode cX5_add 109 = .ok (.ifCond .le 36, 3) := by decide +kernel
theorem dX5_add_112 : decode cX5_add 112 = .ok (.aload_n 0, 1) := by decide +kernel
theorem dX5_add_113 : decode cX5_add 113 = .ok (.getfield 20, 3) := by decide +kernel
theorem dX5_add_116 : decode cX5_add 116 = .ok (.iload 8, 2) := by decide +kernel
theorem dX5_add_118 : decode cX5_add 118 = .ok (.iconst 1, 1) := by decide +kernel
theorem dX5_add_119 : decode cX5_add 119 = .ok (.isub, 1) := by decide +kernel
theorem dX5_add_120 : decode cX5_add 120 = .ok (.dup2, 1) := by decide +kernel
theorem dX5_add_121 : decode cX5_add 121 = .ok (.iaload, 1) := by decide +kernel
theorem dX5_add_122 : decode cX5_add 122 = .ok (.iconst 1, 1) := by decide +kernel
theorem dX5_add_123 : decode cX5_add 123 = .ok (.iadd, 1) := by decide +kernel
theorem dX5_add_124 : decode cX5_add 124 = .ok (.iastore, 1) := by decide +kernel
theorem dX5_add_125 : decode cX5_add 125 = .ok (.aload_n 0, 1) := by decide +kernel
theorem dX5_add_126 : decode cX5_add 126 = .ok (.aload_n 0, 1) := by decide +kernel
theorem dX5_add_127 : decode cX5_add 127 = .ok (.getfield 36, 3) := by decide +kernel
theorem dX5_add_130 : decode cX5_add 130 = .ok (.aload_n 0, 1) := by decide +kernel
theorem dX5_add_131 : decode cX5_add 131 = .ok (.getfield 20, 3) := by decide +kernel
theorem dX5_add_134 : decode cX5_add 134 = .ok (.iload 8, 2) := by decide +kernel
theorem dX5_add_136 : decode cX5_add 136 = .ok (.iconst 1, 1) := by decide +kernel
theorem dX5_add_137 : decode cX5_add 137 = .ok (.isub, 1) := by decide +kernel
theorem dX5_add_138 : decode cX5_add 138 = .ok (.iaload, 1) := by decide +kernel
theorem dX5_add_139 : decode cX5_add 139 = .ok (.invokestatic 49, 3) := by decide +kernel
theorem dX5_add_142 : decode cX5_add 142 = .ok (.putfield 36, 3) := by decide +kernel
theorem dX5_add_145 : decode cX5_add 145 = .ok (.return_, 1) := by decide +kernel
def J_X5_add_107 (v8 : Int32) (D : aD) : Option (aD) :=
  if v8 ≤ 0 then (some D) else (aGd (aIn (v8 - 1) 1925) (aGd (aIn (v8 - 1) 1925) (aLet (pI D 86 (v8 - 1).toNatClampNeg ((gI D 86 (v8 - 1).toNatClampNeg) + 1)) (fun D_7 => aGd (aIn (v8 - 1) 1925) (aLet (pI D_7 82 6 (if (gI D_7 82 6) < (gI D_7 86 (v8 - 1).toNatClampNeg) then (gI D_7 86 (v8 - 1).toNatClampNeg) else (gI D_7 82 6))) (fun D_9 => some D_9))))))
def J_X5_add_92 (v1 : Int64) (v3 : Int64) (v7 : Int32) (v8 : Int32) (D : aD) : Option (aD) :=
  if v8 ≠ 0 then (J_X5_add_107 v8 D) else (aBi (f_X5_open v7 v1 v3 D) (fun y_10 D_11 => J_X5_add_107 y_10 D_11))
def B_X5_add_48 (v1 : Int64) (v3 : Int64) (v7 : Int32) (v8 : Int32) (v9 : Int32) (D : aD) : Option ((Int32 × Int32 × aD) ⊕ ((Int32 × aD))) :=
  if gI D 82 5 ≤ v9 then (some (.inr (v8, D))) else (if v8 ≤ 0 then (some (.inr (v8, D))) else (aBi (f_X5_isAt (v8 - 1) v1 v3 D) (fun y_12 D_13 => if y_12 ≠ 0 then (some (.inr (v8, D_13))) else (aGd (aIn (v8 - 1) 1925) (aLet (gI D_13 87 (v8 - 1).toNatClampNeg) (fun v8_15 => aLet (v9 + 1) (fun v9_16 => some (.inl (v8_15, v9_16, D_13)))))))))
def J_X5_add_48 (v1 : Int64) (v3 : Int64) (v7 : Int32) (v8 : Int32) (v9 : Int32) (D : aD) : Option (aD) :=
  (aLp (fun s => B_X5_add_48 v1 v3 v7 s.1 s.2.1 s.2.2) (v8, v9, D)).bind (fun r => J_X5_add_92 v1 v3 v7 (r.1) r.2)
def f_X5_add (v1 : Int64) (v3 : Int64) (D : aD) : Option (aD) :=
  aLet ((v1 * 31) + v3) (fun v5_1 => aLet (((((v5_1 ^^^ ((v5_1.toUInt64 >>> ((10 : Int32).toInt64.toUInt64 &&& Int64.toUInt64 63)).toInt64)) ^^^ ((v5_1.toUInt64 >>> ((20 : Int32).toInt64.toUInt64 &&& Int64.toUInt64 63)).toInt64)) ^^^ ((v5_1.toUInt64 >>> ((30 : Int32).toInt64.toUInt64 &&& Int64.toUInt64 63)).toInt64)).toInt32) &&& 1023) (fun v7_2 => aGd (aIn v7_2 1024) (aLet (gI D 83 v7_2.toNatClampNeg) (fun v8_4 => J_X5_add_48 v1 v3 v7_2 v8_4 0 D))))
set_option maxRecDepth 100000 in
set_option maxHeartbeats 800000 in
theorem c_X5_add {G : aG} (hG : gOK G) {shp : List aSh} (hS : aShp shp) {fr : Option Nat} {v1 : Int64} {v3 : Int64} {D : aD} {K : aD → Prop} (h : Ok (f_X5_add v1 v3 D) K) : AC G (aRm 2 0 0) M_X5_add [.ref 82, .long v1, .long v3] fr shp D (aQv shp K) := by
  unfold f_X5_add at h
  refine AC.of (al := [some (.ref 82), some (.long v1), none, some (.long v3), none, none, none, none, none, none]) (r := 5) (by decide) (Nat.le_of_ble_eq_true rfl) rfl ?_
  have hJ_107 : ∀ (v8 : Int32) (D : aD), Ok (J_X5_add_107 v8 D) K → AW G (aRm 2 0 0) M_X5_add fr 0 0 107 [some (.ref 82), none, none, none, none, none, none, none, some (.int v8), none] [] shp D (aQv shp K) := by
    intro v8 D h
    unfold J_X5_add_107 at h
    refine aw_iload (n := 109) (i := 8) dX5_add_107 rfl rfl ?_
    refine aw_if_le (n := 112) (tgt := 145) dX5_add_109 rfl (by decide) (fun c => ?_) (fun c => ?_)
    · replace h := Ok.ift h c
      exact aw_vret rfl (by decide) (by decide) dX5_add_145 ⟨rfl, rfl, (Ok.dn h :)⟩
    · replace h := Ok.iff h c
      refine aw_aload_n (n := 113) (i := 0) dX5_add_112 rfl rfl rfl ?_
      refine aw_getR (n := 116) (j := 3) (r := 86) hG.1 fl_RX5_20 (sF_82 hS) rfl dX5_add_113 rfl ?_
      refine aw_iload (n := 118) (i := 8) dX5_add_116 rfl rfl ?_
      refine aw_iconst (n := 119) (v := 1) dX5_add_118 rfl (by decide) ?_
      refine aw_isub (n := 120) dX5_add_119 rfl ?_
      refine aw_dup2 (n := 121) dX5_add_120 rfl rfl rfl ?_
      obtain ⟨g_5, h⟩ := Ok.gd h
      refine aw_iaload (n := 122) hG.1 (sF_86 hS) (aIn_in g_5) dX5_add_121 rfl ?_
      refine aw_iconst (n := 123) (v := 1) dX5_add_122 rfl (by decide) ?_
      refine aw_iadd (n := 124) dX5_add_123 rfl ?_
      obtain ⟨g_6, h⟩ := Ok.gd h
      obtain ⟨D_7, e_D_7, h⟩ := Ok.let_ h
      refine aw_iastore (n := 125) hG.1 (sF_86 hS) (aIn_in g_6) e_D_7 dX5_add_124 rfl ?_
      refine aw_aload_n (n := 126) (i := 0) dX5_add_125 rfl rfl rfl ?_
      refine aw_aload_n (n := 127) (i := 0) dX5_add_126 rfl rfl rfl ?_
      refine aw_getI (n := 130) (j := 6) hG.1 fl_RX5_36 (sF_82 hS) rfl dX5_add_127 rfl ?_
      refine aw_aload_n (n := 131) (i := 0) dX5_add_130 rfl rfl rfl ?_
      refine aw_getR (n := 134) (j := 3) (r := 86) hG.1 fl_RX5_20 (sF_82 hS) rfl dX5_add_131 rfl ?_
      refine aw_iload (n := 136) (i := 8) dX5_add_134 rfl rfl ?_
      refine aw_iconst (n := 137) (v := 1) dX5_add_136 rfl (by decide) ?_
      refine aw_isub (n := 138) dX5_add_137 rfl ?_
      obtain ⟨g_8, h⟩ := Ok.gd h
      refine aw_iaload (n := 139) hG.1 (sF_86 hS) (aIn_in g_8) dX5_add_138 rfl ?_
      refine aw_max (M := M_X5_add) (n := 142) lm_RX5_49 mm_max.1 mm_max.2.1 mm_max.2.2 (by decide) (Nat.le_of_ble_eq_true rfl) (by decide) (by decide) dX5_add_139 rfl ?_
      obtain ⟨D_9, e_D_9, h⟩ := Ok.let_ h
      refine aw_putI (n := 145) (j := 6) hG.1 fl_RX5_36 (sF_82 hS) rfl e_D_9 dX5_add_142 rfl ?_
      exact aw_vret rfl (by decide) (by decide) dX5_add_145 ⟨rfl, rfl, (Ok.dn h :)⟩
  have hJ_92 : ∀ (v1 : Int64) (v3 : Int64) (v7 : Int32) (v8 : Int32) (D : aD), Ok (J_X5_add_92 v1 v3 v7 v8 D) K → AW G (aRm 2 0 0) M_X5_add fr 0 0 92 [some (.ref 82), some (.long v1), none, some (.long v3), none, none, none, some (.int v7), some (.int v8), none] [] shp D (aQv shp K) := by
    intro v1 v3 v7 v8 D h
    unfold J_X5_add_92 at h
    refine aw_iload (n := 94) (i := 8) dX5_add_92 rfl rfl ?_
    refine aw_if_ne (n := 97) (tgt := 107) dX5_add_94 rfl (by decide) (fun c => ?_) (fun c => ?_)
    · replace h := Ok.ift h c
      exact aw_le' (hJ_107 v8 D h) ⟨rfl, ⟨rfl, trivial⟩⟩
    · replace h := Ok.iffn h c
      refine aw_aload_n (n := 98) (i := 0) dX5_add_97 rfl rfl rfl ?_
      refine aw_iload (n := 100) (i := 7) dX5_add_98 rfl rfl ?_
      refine aw_lload_n (n := 101) (i := 1) dX5_add_100 rfl rfl rfl ?_
      refine aw_lload_n (n := 102) (i := 3) dX5_add_101 rfl rfl rfl ?_
      refine aw_cVi (M := M_X5_add) (n := 105) (As := [.int v7, .long v1, .long v3]) (rest := []) hG.1 lk_RX5_45 rfl rfl (sF_82 hS) (c_X5_open hG hS (h := Ok.bi h)) (by decide) (Nat.le_of_ble_eq_true rfl) (by decide) (by decide) dX5_add_102 rfl (fun y_10 D_11 h => ?_)
      refine aw_istore (n := 107) (i := 8) (al' := [some (.ref 82), some (.long v1), none, some (.long v3), none, none, none, some (.int v7), some (.int y_10), none]) dX5_add_105 rfl rfl (by decide) rfl ?_
      exact aw_le' (hJ_107 y_10 D_11 h) ⟨rfl, ⟨rfl, trivial⟩⟩
  have hJ_48 : ∀ (v1 : Int64) (v3 : Int64) (v7 : Int32) (v8 : Int32) (v9 : Int32) (D : aD), Ok (J_X5_add_48 v1 v3 v7 v8 v9 D) K → AW G (aRm 2 0 0) M_X5_add fr 0 0 48 [some (.ref 82), some (.long v1), none, some (.long v3), none, none, none, some (.int v7), some (.int v8), some (.int v9)] [] shp D (aQv shp K) := by
    intro v1 v3 v7 v8 v9 D h
    unfold J_X5_add_48 at h
    refine Ok.lp (P := fun s => AW G (aRm 2 0 0) M_X5_add fr 0 0 48 [some (.ref 82), some (.long v1), none, some (.long v3), none, none, none, some (.int v7), some (.int (s.1)), some (.int (s.2.1))] [] shp s.2.2 (aQv shp K)) (fun s Kb48 hL48 hR48 h => ?_) (v8, v9, D) (Ok.bind h)
    obtain ⟨v8, v9, D⟩ := s
    replace h : Ok (B_X5_add_48 v1 v3 v7 v8 v9 D) Kb48 := h
    unfold B_X5_add_48 at h
    refine aw_iload (n := 50) (i := 9) dX5_add_48 rfl rfl ?_
    refine aw_aload_n (n := 51) (i := 0) dX5_add_50 rfl rfl rfl ?_
    refine aw_getI (n := 54) (j := 5) hG.1 fl_RX5_32 (sF_82 hS) rfl dX5_add_51 rfl ?_
    refine aw_icmp_ge (n := 57) (tgt := 92) dX5_add_54 rfl (by decide) (fun c => ?_) (fun c => ?_)
    · replace h := Ok.ift h c
      exact aw_le' (hJ_92 v1 v3 v7 v8 D (hR48 (v8, D) (Ok.dn h :))) ⟨rfl, ⟨rfl, ⟨rfl, ⟨rfl, ⟨rfl, trivial⟩⟩⟩⟩⟩
    · replace h := Ok.iff h c
      refine aw_iload (n := 59) (i := 8) dX5_add_57 rfl rfl ?_
      refine aw_if_le (n := 62) (tgt := 92) dX5_add_59 rfl (by decide) (fun c => ?_) (fun c => ?_)
      · replace h := Ok.ift h c
        exact aw_le' (hJ_92 v1 v3 v7 v8 D (hR48 (v8, D) (Ok.dn h :))) ⟨rfl, ⟨rfl, ⟨rfl, ⟨rfl, ⟨rfl, trivial⟩⟩⟩⟩⟩
      · replace h := Ok.iff h c
        refine aw_aload_n (n := 63) (i := 0) dX5_add_62 rfl rfl rfl ?_
        refine aw_iload (n := 65) (i := 8) dX5_add_63 rfl rfl ?_
        refine aw_iconst (n := 66) (v := 1) dX5_add_65 rfl (by decide) ?_
        refine aw_isub (n := 67) dX5_add_66 rfl ?_
        refine aw_lload_n (n := 68) (i := 1) dX5_add_67 rfl rfl rfl ?_
        refine aw_lload_n (n := 69) (i := 3) dX5_add_68 rfl rfl rfl ?_
        refine aw_cVi (M := M_X5_add) (n := 72) (As := [.int (v8 - 1), .long v1, .long v3]) (rest := []) hG.1 lk_RX5_41 rfl rfl (sF_82 hS) (c_X5_isAt hG hS (h := Ok.bi h)) (by decide) (Nat.le_of_ble_eq_true rfl) (by decide) (by decide) dX5_add_69 rfl (fun y_12 D_13 h => ?_)
        refine aw_if_ne (n := 75) (tgt := 92) dX5_add_72 rfl (by decide) (fun c => ?_) (fun c => ?_)
        · replace h := Ok.ift h c
          exact aw_le' (hJ_92 v1 v3 v7 v8 D_13 (hR48 (v8, D_13) (Ok.dn h :))) ⟨rfl, ⟨rfl, ⟨rfl, ⟨rfl, ⟨rfl, trivial⟩⟩⟩⟩⟩
        · replace h := Ok.iffn h c
          refine aw_aload_n (n := 76) (i := 0) dX5_add_75 rfl rfl rfl ?_
          refine aw_getR (n := 79) (j := 4) (r := 87) hG.1 fl_RX5_23 (sF_82 hS) rfl dX5_add_76 rfl ?_
          refine aw_iload (n := 81) (i := 8) dX5_add_79 rfl rfl ?_
          refine aw_iconst (n := 82) (v := 1) dX5_add_81 rfl (by decide) ?_
          refine aw_isub (n := 83) dX5_add_82 rfl ?_
          obtain ⟨g_14, h⟩ := Ok.gd h
          refine aw_iaload (n := 84) hG.1 (sF_87 hS) (aIn_in g_14) dX5_add_83 rfl ?_
          obtain ⟨v8_15, e_v8_15, h⟩ := Ok.let_ h
          refine aw_istore (n := 86) (i := 8) (al' := [some (.ref 82), some (.long v1), none, some (.long v3), none, none, none, some (.int v7), some (.int v8_15), some (.int v9)]) dX5_add_84 rfl e_v8_15 (by decide) rfl ?_
          obtain ⟨v9_16, e_v9_16, h⟩ := Ok.let_ h
          refine aw_iinc (n := 89) (al' := [some (.ref 82), some (.long v1), none, some (.long v3), none, none, none, some (.int v7), some (.int v8_15), some (.int v9_16)]) dX5_add_86 rfl rfl e_v9_16 (by decide) rfl ?_
          refine aw_goto (tgt := 48) dX5_add_89 (by decide) ?_
          exact aw_le' (hL48 (v8_15, v9_16, D_13) (Ok.dn h :)) ⟨rfl, ⟨rfl, ⟨rfl, ⟨rfl, ⟨rfl, ⟨rfl, trivial⟩⟩⟩⟩⟩⟩
  refine aw_lload_n (n := 1) (i := 1) dX5_add_0 rfl rfl rfl ?_
  refine aw_ldc2 (M := M_X5_add) (n := 4) (v := 31) dX5_add_1 rfl kl_RX5_39 ?_
  refine aw_lmul (n := 5) dX5_add_4 rfl ?_
  refine aw_lload_n (n := 6) (i := 3) dX5_add_5 rfl rfl rfl ?_
  refine aw_ladd (n := 7) dX5_add_6 rfl ?_
  obtain ⟨v5_1, e_v5_1, h⟩ := Ok.let_ h
  refine aw_lstore (n := 9) (i := 5) (al' := [some (.ref 82), some (.long v1), none, some (.long v3), none, some (.long v5_1), none, none, none, none]) dX5_add_7 rfl e_v5_1 (by decide) rfl ?_
  refine aw_lload (n := 11) (i := 5) dX5_add_9 rfl rfl ?_
  refine aw_lload (n := 13) (i := 5) dX5_add_11 rfl rfl ?_
  refine aw_bipush (n := 15) (v := 10) dX5_add_13 rfl (by decide) ?_
  refine aw_lushr (n := 16) dX5_add_15 rfl ?_
  refine aw_lxor (n := 17) dX5_add_16 rfl ?_
  refine aw_lload (n := 19) (i := 5) dX5_add_17 rfl rfl ?_
  refine aw_bipush (n := 21) (v := 20) dX5_add_19 rfl (by decide) ?_
  refine aw_lushr (n := 22) dX5_add_21 rfl ?_
  refine aw_lxor (n := 23) dX5_add_22 rfl ?_
  refine aw_lload (n := 25) (i := 5) dX5_add_23 rfl rfl ?_
  refine aw_bipush (n := 27) (v := 30) dX5_add_25 rfl (by decide) ?_
  refine aw_lushr (n := 28) dX5_add_27 rfl ?_
  refine aw_lxor (n := 29) dX5_add_28 rfl ?_
  refine aw_l2i (n := 30) dX5_add_29 rfl ?_
  refine aw_sipush (n := 33) (v := 1023) dX5_add_30 rfl (by decide) ?_
  refine aw_iand (n := 34) dX5_add_33 rfl ?_
  obtain ⟨v7_2, e_v7_2, h⟩ := Ok.let_ h
  refine aw_istore (n := 36) (i := 7) (al' := [some (.ref 82), some (.long v1), none, some (.long v3), none, some (.long v5_1), none, some (.int v7_2), none, none]) dX5_add_34 rfl e_v7_2 (by decide) rfl ?_
  refine aw_aload_n (n := 37) (i := 0) dX5_add_36 rfl rfl rfl ?_
  refine aw_getR (n := 40) (j := 0) (r := 83) hG.1 fl_RX5_9 (sF_82 hS) rfl dX5_add_37 rfl ?_
  refine aw_iload (n := 42) (i := 7) dX5_add_40 rfl rfl ?_
  obtain ⟨g_3, h⟩ := Ok.gd h
  refine aw_iaload (n := 43) hG.1 (sF_83 hS) (aIn_in g_3) dX5_add_42 rfl ?_
  obtain ⟨v8_4, e_v8_4, h⟩ := Ok.let_ h
  refine aw_istore (n := 45) (i := 8) (al' := [some (.ref 82), some (.long v1), none, some (.long v3), none, some (.long v5_1), none, some (.int v7_2), some (.int v8_4), none]) dX5_add_43 rfl e_v8_4 (by decide) rfl ?_
  refine aw_iconst (n := 46) (v := 0) dX5_add_45 rfl (by decide) ?_
  refine aw_istore (n := 48) (i := 9) (al' := [some (.ref 82), some (.long v1), none, some (.long v3), none, some (.long v5_1), none, some (.int v7_2), some (.int v8_4), some (.int 0)]) dX5_add_46 rfl rfl (by decide) rfl ?_
  exact aw_le' (hJ_48 v1 v3 v7_2 v8_4 0 D h) ⟨rfl, ⟨rfl, ⟨rfl, ⟨rfl, ⟨rfl, ⟨rfl, trivial⟩⟩⟩⟩⟩⟩
theorem dX10_greatestGroup_0 : decode cX10_greatestGroup 0 = .ok (.iconst 0, 1) := by decide +kernel
theorem dX10_greatestGroup_1 : decode cX10_greatestGroup 1 = .ok (.istore_n 3, 1) := by decide +kernel
theorem dX10_greatestGroup_2 : decode cX10_greatestGroup 2 = .ok (.iload_n 3, 1) := by decide +kernel
theorem dX10_greatestGroup_3 : decode cX10_greatestGroup 3 = .ok (.iconst 5, 1) := by decide +kernel
theorem dX10_greatestGroup_4 : decode cX10_greatestGroup 4 = .ok (.if_icmp .ge 43, 3) := by decide +kernel
theorem dX10_greatestGroup_7 : decode cX10_greatestGroup 7 = .ok (.aload_n 0, 1) := by decide +kernel
theorem dX10_greatestGroup_8 : decode cX10_greatestGroup 8 = .ok (.getfield 27, 3) := by decide +kernel
theorem dX10_greatestGroup_11 : decode cX10_greatestGroup 11 = .ok (.getfield 43, 3) := by decide +kernel
theorem dX10_greatestGroup_14 : decode cX10_greatestGroup 14 = .ok (.iload_n 3, 1) := by decide +kernel
theorem dX10_greatestGroup_15 : decode cX10_greatestGroup 15 = .ok (.iaload, 1) := by decide +kernel
theorem dX10_greatestGroup_16 : decode cX10_greatestGroup 16 = .ok (.ifCond .le 25, 3) := by decide +kernel
theorem dX10_greatestGroup_19 : decode cX10_greatestGroup 19 = .ok (.aload_n 0, 1) := by decide +kernel
theorem dX10_greatestGroup_20 : decode cX10_greatestGroup 20 = .ok (.getfield 35, 3) := by decide +kernel
theorem dX10_greatestGroup_23 : decode cX10_greatestGroup 23 = .ok (.iload_n 1, 1) := by decide +kernel
theorem dX10_greatestGroup_24 : decode cX10_greatestGroup 24 = .ok (.iload_n 2, 1) := by decide +kernel
theorem dX10_greatestGroup_25 : decode cX10_greatestGroup 25 = .ok (.iload_n 3, 1) := by decide +kernel
theorem dX10_greatestGroup_26 : decode cX10_greatestGroup 26 = .ok (.invokevirtual 65, 3) := by decide +kernel
theorem dX10_greatestGroup_29 : decode cX10_greatestGroup 29 = .ok (.aload_n 0, 1) := by decide +kernel
theorem dX10_greatestGroup_30 : decode cX10_greatestGroup 30 = .ok (.getfield 35, 3) := by decide +kernel
theorem dX10_greatestGroup_33 : decode cX10_greatestGroup 33 = .ok (.aload_n 0, 1) := by decide +kernel
theorem dX10_greatestGroup_34 : decode cX10_greatestGroup 34 = .ok (.getfield 15, 3) := by decide +kernel
theorem dX10_greatestGroup_37 : decode cX10_greatestGroup 37 = .ok (.iload_n 3, 1) := by decide +kernel
theorem dX10_greatestGroup_38 : decode cX10_greatestGroup 38 = .ok (.invokevirtual 71, 3) := by decide +kernel
theorem dX10_greatestGroup_41 : decode cX10_greatestGroup 41 = .ok (.iinc 3 1, 3) := by decide +kernel
theorem dX10_greatestGroup_44 : decode cX10_greatestGroup 44 = .ok (.goto (-42), 3) := by decide +kernel
theorem dX10_greatestGroup_47 : decode cX10_greatestGroup 47 = .ok (.aload_n 0, 1) := by decide +kernel
theorem dX10_greatestGroup_48 : decode cX10_greatestGroup 48 = .ok (.getfield 23, 3) := by decide +kernel
theorem dX10_greatestGroup_51 : decode cX10_greatestGroup 51 = .ok (.invokevirtual 131, 3) := by decide +kernel
theorem dX10_greatestGroup_54 : decode cX10_greatestGroup 54 = .ok (.iconst 0, 1) := by decide +kernel
theorem dX10_greatestGroup_55 : decode cX10_greatestGroup 55 = .ok (.istore_n 3, 1) := by decide +kernel
theorem dX10_greatestGroup_56 : decode cX10_greatestGroup 56 = .ok (.iload_n 3, 1) := by decide +kernel
theorem dX10_greatestGroup_57 : decode cX10_greatestGroup 57 = .ok (.aload_n 0, 1) := by decide +kernel
theorem dX10_greatestGroup_58 : decode cX10_greatestGroup 58 = .ok (.getfield 39, 3) := by decide +kernel
theorem dX10_greatestGroup_61 : decode cX10_greatestGroup 61 = .ok (.if_icmp .ge 117, 3) := by decide +kernel
theorem dX10_greatestGroup_64 : decode cX10_greatestGroup 64 = .ok (.aload_n 0, 1) := by decide +kernel
theorem dX10_greatestGroup_65 : decode cX10_greatestGroup 65 = .ok (.getfield 11, 3) := by decide +kernel
theorem dX10_greatestGroup_68 : decode cX10_greatestGroup 68 = .ok (.iload_n 3, 1) := by decide +kernel
theorem dX10_greatestGroup_69 : decode cX10_greatestGroup 69 = .ok (.iaload, 1) := by decide +kernel
theorem dX10_greatestGroup_70 : decode cX10_greatestGroup 70 = .ok (.bipush 16, 2) := by decide +kernel
theorem dX10_greatestGroup_72 : decode cX10_greatestGroup 72 = .ok (.iushr, 1) := by decide +kernel
theorem dX10_greatestGroup_73 : decode cX10_greatestGroup 73 = .ok (.istore 4, 2) := by decide +kernel
theorem dX10_greatestGroup_75 : decode cX10_greatestGroup 75 = .ok (.aload_n 0, 1) := by decide +kernel
theorem dX10_greatestGroup_76 : decode cX10_greatestGroup 76 = .ok (.getfield 11, 3) := by decide +kernel
theorem dX10_greatestGroup_79 : decode cX10_greatestGroup 79 = .ok (.iload_n 3, 1) := by decide +kernel
theorem dX10_greatestGroup_80 : decode cX10_greatestGroup 80 = .ok (.iaload, 1) := by decide +kernel
theorem dX10_greatestGroup_81 : decode cX10_greatestGroup 81 = .ok (.bipush 8, 2) := by decide +kernel
theorem dX10_greatestGroup_83 : decode cX10_greatestGroup 83 = .ok (.iushr, 1) := by decide +kernel
theorem dX10_greatestGroup_84 : decode cX10_greatestGroup 84 = .ok (.sipush 255, 3) := by decide +kernel
theorem dX10_greatestGroup_87 : decode cX10_greatestGroup 87 = .ok (.iand, 1) := by decide +kernel
theorem dX10_greatestGroup_88 : decode cX10_greatestGroup 88 = .ok (.iconst 1, 1) := by decide +kernel
theorem dX10_greatestGroup_89 : decode cX10_greatestGroup 89 = .ok (.isub, 1) := by decide +kernel
theorem dX10_greatestGroup_90 : decode cX10_greatestGroup 90 = .ok (.istore 5, 2) := by decide +kernel
theorem dX10_greatestGroup_92 : decode cX10_greatestGroup 92 = .ok (.aload_n 0, 1) := by decide +kernel
theorem dX10_greatestGroup_93 : decode cX10_greatestGroup 93 = .ok (.getfield 35, 3) := by decide +kernel
theorem dX10_greatestGroup_96 : decode cX10_greatestGroup 96 = .ok (.aload_n 0, 1) := by decide +kernel
theorem dX10_greatestGroup_97 : decode cX10_greatestGroup 97 = .ok (.getfield 15, 3) := by decide +kernel
theorem dX10_greatestGroup_100 : decode cX10_greatestGroup 100 = .ok (.iload 4, 2) := by decide +kernel
theorem dX10_greatestGroup_102 : decode cX10_greatestGroup 102 = .ok (.invokevirtual 95, 3) := by decide +kernel
theorem dX10_greatestGroup_105 : decode cX10_greatestGroup 105 = .ok (.iload 5, 2) := by decide +kernel
theorem dX10_greatestGroup_107 : decode cX10_greatestGroup 107 = .ok (.iconst (-1), 1) := by decide +kernel
theorem dX10_greatestGroup_108 : decode cX10_greatestGroup 108 = .ok (.if_icmp .eq 47, 3) := by decide +kernel
theorem dX10_greatestGroup_111 : decode cX10_greatestGroup 111 = .ok (.aload_n 0, 1) := by decide +kernel
theorem dX10_greatestGroup_112 : decode cX10_greatestGroup 112 = .ok (.getfield 35, 3) := by decide +kernel
theorem dX10_greatestGroup_115 : decode cX10_greatestGroup 115 = .ok (.getfield 98, 3) := by decide +kernel
theorem dX10_greatestGroup_118 : decode cX10_greatestGroup 118 = .ok (.iload 5, 2) := by decide +kernel
theorem dX10_greatestGroup_120 : decode cX10_greatestGroup 120 = .ok (.dup2, 1) := by decide +kernel
theorem dX10_greatestGroup_121 : decode cX10_greatestGroup 121 = .ok (.iaload, 1) := by decide +kernel
theorem dX10_greatestGroup_122 : decode cX10_greatestGroup 122 = .ok (.aload_n 0, 1) := by decide +kernel
theorem dX10_greatestGroup_123 : decode cX10_greatestGroup 123 = .ok (.getfield 27, 3) := by decide +kernel
theorem dX10_greatestGroup_126 : decode cX10_greatestGroup 126 = .ok (.iload 5, 2) := by decide +kernel
theorem dX10_greatestGroup_128 : decode cX10_greatestGroup 128 = .ok (.iconst 1, 1) := by decide +kernel
theorem dX10_greatestGroup_129 : decode cX10_greatestGroup 129 = .ok (.aload_n 0, 1) := by decide +kernel
theorem dX10_greatestGroup_130 : decode cX10_greatestGroup 130 = .ok (.getfield 11, 3) := by decide +kernel
theorem dX10_greatestGroup_133 : decode cX10_greatestGroup 133 = .ok (.iload_n 3, 1) := by decide +kernel
theorem dX10_greatestGroup_134 : decode cX10_greatestGroup 134 = .ok (.iaload, 1) := by decide +kernel
theorem dX10_greatestGroup_135 : decode cX10_greatestGroup 135 = .ok (.sipush 255, 3) := by decide +kernel
theorem dX10_greatestGroup_138 : decode cX10_greatestGroup 138 = .ok (.iand, 1) := by decide +kernel
theorem dX10_greatestGroup_139 : decode cX10_greatestGroup 139 = .ok (.iload_n 1, 1) := by decide +kernel
theorem dX10_greatestGroup_140 : decode cX10_greatestGroup 140 = .ok (.aload_n 0, 1) := by decide +kernel
theorem dX10_greatestGroup_141 : decode cX10_greatestGroup 141 = .ok (.getfield 31, 3) := by decide +kernel
theorem dX10_greatestGroup_144 : decode cX10_greatestGroup 144 = .ok (.getfield 101, 3) := by decide +kernel
theorem dX10_greatestGroup_147 : decode cX10_greatestGroup 147 = .ok (.iload_n 2, 1) := by decide +kernel
theorem dX10_greatestGroup_148 : decode cX10_greatestGroup 148 = .ok (.iload 4, 2) := by decide +kernel
theorem dX10_greatestGroup_150 : decode cX10_greatestGroup 150 = .ok (.invokevirtual 104, 3) := by decide +kernel
theorem dX10_greatestGroup_153 : decode cX10_greatestGroup 153 = .ok (.iadd, 1) := by decide +kernel
theorem dX10_greatestGroup_154 : decode cX10_greatestGroup 154 = .ok (.iastore, 1) := by decide +kernel
theorem dX10_greatestGroup_155 : decode cX10_greatestGroup 155 = .ok (.aload_n 0, 1) := by decide +kernel
theorem dX10_greatestGroup_156 : decode cX10_greatestGroup 156 = .ok (.getfield 23, 3) := by decide +kernel
theorem dX10_greatestGroup_159 : decode cX10_greatestGroup 159 = .ok (.aload_n 0, 1) := by decide +kernel
theorem dX10_greatestGroup_160 : decode cX10_greatestGroup 160 = .ok (.iconst 0, 1) := by decide +kernel
theorem dX10_greatestGroup_161 : decode cX10_greatestGroup 161 = .ok (.invokevirtual 134, 3) := by decide +kernel
theorem dX10_greatestGroup_164 : decode cX10_greatestGroup 164 = .ok (.aload_n 0, 1) := by decide +kernel
theorem dX10_greatestGroup_165 : decode cX10_greatestGroup 165 = .ok (.iconst 3, 1) := by decide +kernel
theorem dX10_greatestGroup_166 : decode cX10_greatestGroup 166 = .ok (.invokevirtual 134, 3) := by decide +kernel
theorem dX10_greatestGroup_169 : decode cX10_greatestGroup 169 = .ok (.invokevirtual 138, 3) := by decide +kernel
theorem dX10_greatestGroup_172 : decode cX10_greatestGroup 172 = .ok (.iinc 3 1, 3) := by decide +kernel
theorem dX10_greatestGroup_175 : decode cX10_greatestGroup 175 = .ok (.goto (-119), 3) := by decide +kernel
theorem dX10_greatestGroup_178 : decode cX10_greatestGroup 178 = .ok (.aload_n 0, 1) := by decide +kernel
theorem dX10_greatestGroup_179 : decode cX10_greatestGroup 179 = .ok (.getfield 23, 3) := by decide +kernel
theorem dX10_greatestGroup_182 : decode cX10_greatestGroup 182 = .ok (.getfield 142, 3) := by decide +kernel
theorem dX10_greatestGroup_185 : decode cX10_greatestGroup 185 = .ok (.ireturn, 1) := by decide +kernel
def J_X10_greatestGroup_178 (D : aD) : Option (Int32 × aD) :=
  some (gI D 82 6, D)
def J_X10_greatestGroup_155 (v1 : Int32) (v2 : Int32) (v3 : Int32) (D : aD) : Option ((Int32 × aD) ⊕ ((aD))) :=
  aBi (f_X10_smellsFrom 0 D) (fun y_7 D_8 => aBi (f_X10_smellsFrom 3 D_8) (fun y_9 D_10 => (f_X5_add y_7 y_9 D_10).bind (fun D_11 => aLet (v3 + 1) (fun v3_12 => some (.inl (v3_12, D_11))))))
def B_X10_greatestGroup_56 (v1 : Int32) (v2 : Int32) (v3 : Int32) (D : aD) : Option ((Int32 × aD) ⊕ ((aD))) :=
  if gI D 79 4 ≤ v3 then (some (.inr D)) else (aGd (aIn v3 1925) (aLet (((gI D 80 v3.toNatClampNeg).toUInt32 >>> ((16 : Int32).toUInt32 &&& Int32.toUInt32 31)).toInt32) (fun v4_3 => aGd (aIn v3 1925) (aLet (((((gI D 80 v3.toNatClampNeg).toUInt32 >>> ((8 : Int32).toUInt32 &&& Int32.toUInt32 31)).toInt32) &&& 255) - 1) (fun v5_5 => (f_X0_loadRaw 81 72 v4_3 D).bind (fun D_6 => if v5_5 = (-1) then (J_X10_greatestGroup_155 v1 v2 v3 D_6) else (aGd (aIn v5_5 6) (aGd (aIn v3 1925) (aBi (f_X6_scent v5_5 1 ((gI D_6 80 v3.toNatClampNeg) &&& 255) v1 (gI D_6 40 3) v2 v4_3 D_6) (fun y_15 D_16 => aGd (aIn v5_5 6) (aLet (pI D_16 58 v5_5.toNatClampNeg ((gI D_6 58 v5_5.toNatClampNeg) + y_15)) (fun D_18 => J_X10_greatestGroup_155 v1 v2 v3 D_18))))))))))))
def J_X10_greatestGroup_56 (v1 : Int32) (v2 : Int32) (v3 : Int32) (D : aD) : Option (Int32 × aD) :=
  (aLp (fun s => B_X10_greatestGroup_56 v1 v2 s.1 s.2) (v3, D)).bind (fun r => J_X10_greatestGroup_178 r)
def J_X10_greatestGroup_47 (v1 : Int32) (v2 : Int32) (D : aD) : Option (Int32 × aD) :=
  (f_X5_clear D).bind (fun D_1 => J_X10_greatestGroup_56 v1 v2 0 D_1)
def B_X10_greatestGroup_2 (v1 : Int32) (v2 : Int32) (v3 : Int32) (D : aD) : Option ((Int32 × aD) ⊕ ((aD))) :=
  if 5 ≤ v3 then (some (.inr D)) else (aGd (aIn v3 5) (if gI D 14 v3.toNatClampNeg ≤ 0 then (aLet (v3 + 1) (fun v3_20 => some (.inl (v3_20, D)))) else ((f_X0_fill v1 v2 v3 D).bind (fun D_21 => (f_X0_saveRaw 81 72 v3 D_21).bind (fun D_22 => aLet (v3 + 1) (fun v3_23 => some (.inl (v3_23, D_22))))))))
def J_X10_greatestGroup_2 (v1 : Int32) (v2 : Int32) (v3 : Int32) (D : aD) : Option (Int32 × aD) :=
  (aLp (fun s => B_X10_greatestGroup_2 v1 v2 s.1 s.2) (v3, D)).bind (fun r => J_X10_greatestGroup_47 v1 v2 r)
def f_X10_greatestGroup (v1 : Int32) (v2 : Int32) (D : aD) : Option (Int32 × aD) :=
  J_X10_greatestGroup_2 v1 v2 0 D
set_option maxRecDepth 100000 in
set_option maxHeartbeats 800000 in
theorem c_X10_greatestGroup {G : aG} (hG : gOK G) {shp : List aSh} (hS : aShp shp) {fr : Option Nat} {v1 : Int32} {v2 : Int32} {D : aD} {K : Int32 → aD → Prop} (h : Ok2 (f_X10_greatestGroup v1 v2 D) K) : AC G (aRm 5 0 0) M_X10_greatestGroup [.ref 79, .int v1, .int v2] fr shp D (aQi shp K) := by
  replace h := Ok2.ok h
  unfold f_X10_greatestGroup at h
  refine AC.of (al := [some (.ref 79), some (.int v1), some (.int v2), none, none, none]) (r := 3) (by decide) (Nat.le_of_ble_eq_true rfl) rfl ?_
  have hJ_178 : ∀ (D : aD), Ok (J_X10_greatestGroup_178 D) (fun r => K r.1 r.2) → AW G (aRm 5 0 0) M_X10_greatestGroup fr 0 0 178 [some (.ref 79), none, none, none, none, none] [] shp D (aQi shp K) := by
    intro D h
    unfold J_X10_greatestGroup_178 at h
    refine aw_aload_n (n := 179) (i := 0) dX10_greatestGroup_178 rfl rfl rfl ?_
    refine aw_getR (n := 182) (j := 7) (r := 82) hG.1 fl_RX10_23 (sF_79 hS) rfl dX10_greatestGroup_179 rfl ?_
    refine aw_getI (n := 185) (j := 6) hG.1 fl_RX10_142 (sF_82 hS) rfl dX10_greatestGroup_182 rfl ?_
    exact aw_iret rfl (by decide) (by decide) dX10_greatestGroup_185 ⟨_, rfl, rfl, (Ok.dn h :)⟩
  have hJ_56 : ∀ (v1 : Int32) (v2 : Int32) (v3 : Int32) (D : aD), Ok (J_X10_greatestGroup_56 v1 v2 v3 D) (fun r => K r.1 r.2) → AW G (aRm 5 0 0) M_X10_greatestGroup fr 0 0 56 [some (.ref 79), some (.int v1), some (.int v2), some (.int v3), none, none] [] shp D (aQi shp K) := by
    intro v1 v2 v3 D h
    unfold J_X10_greatestGroup_56 at h
    refine Ok.lp (P := fun s => AW G (aRm 5 0 0) M_X10_greatestGroup fr 0 0 56 [some (.ref 79), some (.int v1), some (.int v2), some (.int (s.1)), none, none] [] shp s.2 (aQi shp K)) (fun s Kb56 hL56 hR56 h => ?_) (v3, D) (Ok.bind h)
    obtain ⟨v3, D⟩ := s
    replace h : Ok (B_X10_greatestGroup_56 v1 v2 v3 D) Kb56 := h
    unfold B_X10_greatestGroup_56 at h
    have hJ_155 : ∀ (v3 : Int32) (D : aD), Ok (J_X10_greatestGroup_155 v1 v2 v3 D) Kb56 → AW G (aRm 5 0 0) M_X10_greatestGroup fr 0 0 155 [some (.ref 79), some (.int v1), some (.int v2), some (.int v3), none, none] [] shp D (aQi shp K) := by
      intro v3 D h
      unfold J_X10_greatestGroup_155 at h
      refine aw_aload_n (n := 156) (i := 0) dX10_greatestGroup_155 rfl rfl rfl ?_
      refine aw_getR (n := 159) (j := 7) (r := 82) hG.1 fl_RX10_23 (sF_79 hS) rfl dX10_greatestGroup_156 rfl ?_
      refine aw_aload_n (n := 160) (i := 0) dX10_greatestGroup_159 rfl rfl rfl ?_
      refine aw_iconst (n := 161) (v := 0) dX10_greatestGroup_160 rfl (by decide) ?_
      refine aw_cVl (M := M_X10_greatestGroup) (n := 164) (As := [.int 0]) (rest := [.ref 82]) hG.1 lk_RX10_134 rfl rfl (sF_79 hS) (c_X10_smellsFrom hG hS (h := Ok.bi h)) (by decide) (Nat.le_of_ble_eq_true rfl) (by decide) (by decide) dX10_greatestGroup_161 rfl (fun y_7 D_8 h => ?_)
      refine aw_aload_n (n := 165) (i := 0) dX10_greatestGroup_164 rfl rfl rfl ?_
      refine aw_iconst (n := 166) (v := 3) dX10_greatestGroup_165 rfl (by decide) ?_
      refine aw_cVl (M := M_X10_greatestGroup) (n := 169) (As := [.int 3]) (rest := [.long y_7, .ref 82]) hG.1 lk_RX10_134 rfl rfl (sF_79 hS) (c_X10_smellsFrom hG hS (h := Ok.bi h)) (by decide) (Nat.le_of_ble_eq_true rfl) (by decide) (by decide) dX10_greatestGroup_166 rfl (fun y_9 D_10 h => ?_)
      refine aw_cVv (M := M_X10_greatestGroup) (n := 172) (As := [.long y_7, .long y_9]) (rest := []) hG.1 lk_RX10_138 rfl rfl (sF_82 hS) (c_X5_add hG hS (h := Ok.bind h)) (by decide) (Nat.le_of_ble_eq_true rfl) (by decide) (by decide) dX10_greatestGroup_169 rfl (fun D_11 h => ?_)
      obtain ⟨v3_12, e_v3_12, h⟩ := Ok.let_ h
      refine aw_iinc (n := 175) (al' := [some (.ref 79), some (.int v1), some (.int v2), some (.int v3_12), none, none]) dX10_greatestGroup_172 rfl rfl e_v3_12 (by decide) rfl ?_
      refine aw_goto (tgt := 56) dX10_greatestGroup_175 (by decide) ?_
      exact aw_le' (hL56 (v3_12, D_11) (Ok.dn h :)) ⟨rfl, ⟨rfl, ⟨rfl, ⟨rfl, trivial⟩⟩⟩⟩
    refine aw_iload_n (n := 57) (i := 3) dX10_greatestGroup_56 rfl rfl rfl ?_
    refine aw_aload_n (n := 58) (i := 0) dX10_greatestGroup_57 rfl rfl rfl ?_
    refine aw_getI (n := 61) (j := 4) hG.1 fl_RX10_39 (sF_79 hS) rfl dX10_greatestGroup_58 rfl ?_
    refine aw_icmp_ge (n := 64) (tgt := 178) dX10_greatestGroup_61 rfl (by decide) (fun c => ?_) (fun c => ?_)
    · replace h := Ok.ift h c
      exact aw_le' (hJ_178 D (hR56 D (Ok.dn h :))) ⟨rfl, trivial⟩
    · replace h := Ok.iff h c
      refine aw_aload_n (n := 65) (i := 0) dX10_greatestGroup_64 rfl rfl rfl ?_
      refine aw_getR (n := 68) (j := 3) (r := 80) hG.1 fl_RX10_11 (sF_79 hS) rfl dX10_greatestGroup_65 rfl ?_
      refine aw_iload_n (n := 69) (i := 3) dX10_greatestGroup_68 rfl rfl rfl ?_
      obtain ⟨g_2, h⟩ := Ok.gd h
      refine aw_iaload (n := 70) hG.1 (sF_80 hS) (aIn_in g_2) dX10_greatestGroup_69 rfl ?_
      refine aw_bipush (n := 72) (v := 16) dX10_greatestGroup_70 rfl (by decide) ?_
      refine aw_iushr (n := 73) dX10_greatestGroup_72 rfl ?_
      obtain ⟨v4_3, e_v4_3, h⟩ := Ok.let_ h
      refine aw_istore (n := 75) (i := 4) (al' := [some (.ref 79), some (.int v1), some (.int v2), some (.int v3), some (.int v4_3), none]) dX10_greatestGroup_73 rfl e_v4_3 (by decide) rfl ?_
      refine aw_aload_n (n := 76) (i := 0) dX10_greatestGroup_75 rfl rfl rfl ?_
      refine aw_getR (n := 79) (j := 3) (r := 80) hG.1 fl_RX10_11 (sF_79 hS) rfl dX10_greatestGroup_76 rfl ?_
      refine aw_iload_n (n := 80) (i := 3) dX10_greatestGroup_79 rfl rfl rfl ?_
      obtain ⟨g_4, h⟩ := Ok.gd h
      refine aw_iaload (n := 81) hG.1 (sF_80 hS) (aIn_in g_4) dX10_greatestGroup_80 rfl ?_
      refine aw_bipush (n := 83) (v := 8) dX10_greatestGroup_81 rfl (by decide) ?_
      refine aw_iushr (n := 84) dX10_greatestGroup_83 rfl ?_
      refine aw_sipush (n := 87) (v := 255) dX10_greatestGroup_84 rfl (by decide) ?_
      refine aw_iand (n := 88) dX10_greatestGroup_87 rfl ?_
      refine aw_iconst (n := 89) (v := 1) dX10_greatestGroup_88 rfl (by decide) ?_
      refine aw_isub (n := 90) dX10_greatestGroup_89 rfl ?_
      obtain ⟨v5_5, e_v5_5, h⟩ := Ok.let_ h
      refine aw_istore (n := 92) (i := 5) (al' := [some (.ref 79), some (.int v1), some (.int v2), some (.int v3), some (.int v4_3), some (.int v5_5)]) dX10_greatestGroup_90 rfl e_v5_5 (by decide) rfl ?_
      refine aw_aload_n (n := 93) (i := 0) dX10_greatestGroup_92 rfl rfl rfl ?_
      refine aw_getR (n := 96) (j := 2) (r := 57) hG.1 fl_RX10_35 (sF_79 hS) rfl dX10_greatestGroup_93 rfl ?_
      refine aw_aload_n (n := 97) (i := 0) dX10_greatestGroup_96 rfl rfl rfl ?_
      refine aw_getR (n := 100) (j := 6) (r := 81) hG.1 fl_RX10_15 (sF_79 hS) rfl dX10_greatestGroup_97 rfl ?_
      refine aw_iload (n := 102) (i := 4) dX10_greatestGroup_100 rfl rfl ?_
      refine aw_cVv (M := M_X10_greatestGroup) (n := 105) (As := [.ref 81, .int v4_3]) (rest := []) hG.1 lk_RX10_95 rfl rfl (sF_57 hS) (c_X0_loadRaw hG hS (h := Ok.bind h) (sF_81 hS)) (by decide) (Nat.le_of_ble_eq_true rfl) (by decide) (by decide) dX10_greatestGroup_102 rfl (fun D_6 h => ?_)
      refine aw_iload (n := 107) (i := 5) dX10_greatestGroup_105 rfl rfl ?_
      refine aw_iconst (n := 108) (v := (-1)) dX10_greatestGroup_107 rfl (by decide) ?_
      refine aw_icmp_eq (n := 111) (tgt := 155) dX10_greatestGroup_108 rfl (by decide) (fun c => ?_) (fun c => ?_)
      · replace h := Ok.ift h c
        exact aw_le' (hJ_155 v3 D_6 h) ⟨rfl, ⟨rfl, ⟨rfl, ⟨rfl, trivial⟩⟩⟩⟩
      · replace h := Ok.iff h c
        refine aw_aload_n (n := 112) (i := 0) dX10_greatestGroup_111 rfl rfl rfl ?_
        refine aw_getR (n := 115) (j := 2) (r := 57) hG.1 fl_RX10_35 (sF_79 hS) rfl dX10_greatestGroup_112 rfl ?_
        refine aw_getR (n := 118) (j := 2) (r := 58) hG.1 fl_RX10_98 (sF_57 hS) rfl dX10_greatestGroup_115 rfl ?_
        refine aw_iload (n := 120) (i := 5) dX10_greatestGroup_118 rfl rfl ?_
        refine aw_dup2 (n := 121) dX10_greatestGroup_120 rfl rfl rfl ?_
        obtain ⟨g_13, h⟩ := Ok.gd h
        refine aw_iaload (n := 122) hG.1 (sF_58 hS) (aIn_in g_13) dX10_greatestGroup_121 rfl ?_
        refine aw_aload_n (n := 123) (i := 0) dX10_greatestGroup_122 rfl rfl rfl ?_
        refine aw_getR (n := 126) (j := 0) (r := 2) hG.1 fl_RX10_27 (sF_79 hS) rfl dX10_greatestGroup_123 rfl ?_
        refine aw_iload (n := 128) (i := 5) dX10_greatestGroup_126 rfl rfl ?_
        refine aw_iconst (n := 129) (v := 1) dX10_greatestGroup_128 rfl (by decide) ?_
        refine aw_aload_n (n := 130) (i := 0) dX10_greatestGroup_129 rfl rfl rfl ?_
        refine aw_getR (n := 133) (j := 3) (r := 80) hG.1 fl_RX10_11 (sF_79 hS) rfl dX10_greatestGroup_130 rfl ?_
        refine aw_iload_n (n := 134) (i := 3) dX10_greatestGroup_133 rfl rfl rfl ?_
        obtain ⟨g_14, h⟩ := Ok.gd h
        refine aw_iaload (n := 135) hG.1 (sF_80 hS) (aIn_in g_14) dX10_greatestGroup_134 rfl ?_
        refine aw_sipush (n := 138) (v := 255) dX10_greatestGroup_135 rfl (by decide) ?_
        refine aw_iand (n := 139) dX10_greatestGroup_138 rfl ?_
        refine aw_iload_n (n := 140) (i := 1) dX10_greatestGroup_139 rfl rfl rfl ?_
        refine aw_aload_n (n := 141) (i := 0) dX10_greatestGroup_140 rfl rfl rfl ?_
        refine aw_getR (n := 144) (j := 1) (r := 40) hG.1 fl_RX10_31 (sF_79 hS) rfl dX10_greatestGroup_141 rfl ?_
        refine aw_getI (n := 147) (j := 3) hG.1 fl_RX10_101 (sF_40 hS) rfl dX10_greatestGroup_144 rfl ?_
        refine aw_iload_n (n := 148) (i := 2) dX10_greatestGroup_147 rfl rfl rfl ?_
        refine aw_iload (n := 150) (i := 4) dX10_greatestGroup_148 rfl rfl ?_
        refine aw_cVi (M := M_X10_greatestGroup) (n := 153) (As := [.int v5_5, .int 1, .int ((gI D_6 80 v3.toNatClampNeg) &&& 255), .int v1, .int (gI D_6 40 3), .int v2, .int v4_3]) (rest := [.int (gI D_6 58 v5_5.toNatClampNeg), .int v5_5, .ref 58]) hG.1 lk_RX10_104 rfl rfl (sF_2 hS) (c_X6_scent hG hS (h := Ok.bi h)) (by decide) (Nat.le_of_ble_eq_true rfl) (by decide) (by decide) dX10_greatestGroup_150 rfl (fun y_15 D_16 h => ?_)
        refine aw_iadd (n := 154) dX10_greatestGroup_153 rfl ?_
        obtain ⟨g_17, h⟩ := Ok.gd h
        obtain ⟨D_18, e_D_18, h⟩ := Ok.let_ h
        refine aw_iastore (n := 155) hG.1 (sF_58 hS) (aIn_in g_17) e_D_18 dX10_greatestGroup_154 rfl ?_
        exact aw_le' (hJ_155 v3 D_18 h) ⟨rfl, ⟨rfl, ⟨rfl, ⟨rfl, trivial⟩⟩⟩⟩
  have hJ_47 : ∀ (v1 : Int32) (v2 : Int32) (D : aD), Ok (J_X10_greatestGroup_47 v1 v2 D) (fun r => K r.1 r.2) → AW G (aRm 5 0 0) M_X10_greatestGroup fr 0 0 47 [some (.ref 79), some (.int v1), some (.int v2), none, none, none] [] shp D (aQi shp K) := by
    intro v1 v2 D h
    unfold J_X10_greatestGroup_47 at h
    refine aw_aload_n (n := 48) (i := 0) dX10_greatestGroup_47 rfl rfl rfl ?_
    refine aw_getR (n := 51) (j := 7) (r := 82) hG.1 fl_RX10_23 (sF_79 hS) rfl dX10_greatestGroup_48 rfl ?_
    refine aw_cVv (M := M_X10_greatestGroup) (n := 54) (As := []) (rest := []) hG.1 lk_RX10_131 rfl rfl (sF_82 hS) (c_X5_clear hG hS (h := Ok.bind h)) (by decide) (Nat.le_of_ble_eq_true rfl) (by decide) (by decide) dX10_greatestGroup_51 rfl (fun D_1 h => ?_)
    refine aw_iconst (n := 55) (v := 0) dX10_greatestGroup_54 rfl (by decide) ?_
    refine aw_istore_n (n := 56) (i := 3) (al' := [some (.ref 79), some (.int v1), some (.int v2), some (.int 0), none, none]) dX10_greatestGroup_55 rfl rfl rfl (by decide) rfl ?_
    exact aw_le' (hJ_56 v1 v2 0 D_1 h) ⟨rfl, ⟨rfl, ⟨rfl, ⟨rfl, trivial⟩⟩⟩⟩
  have hJ_2 : ∀ (v1 : Int32) (v2 : Int32) (v3 : Int32) (D : aD), Ok (J_X10_greatestGroup_2 v1 v2 v3 D) (fun r => K r.1 r.2) → AW G (aRm 5 0 0) M_X10_greatestGroup fr 0 0 2 [some (.ref 79), some (.int v1), some (.int v2), some (.int v3), none, none] [] shp D (aQi shp K) := by
    intro v1 v2 v3 D h
    unfold J_X10_greatestGroup_2 at h
    refine Ok.lp (P := fun s => AW G (aRm 5 0 0) M_X10_greatestGroup fr 0 0 2 [some (.ref 79), some (.int v1), some (.int v2), some (.int (s.1)), none, none] [] shp s.2 (aQi shp K)) (fun s Kb2 hL2 hR2 h => ?_) (v3, D) (Ok.bind h)
    obtain ⟨v3, D⟩ := s
    replace h : Ok (B_X10_greatestGroup_2 v1 v2 v3 D) Kb2 := h
    unfold B_X10_greatestGroup_2 at h
    refine aw_iload_n (n := 3) (i := 3) dX10_greatestGroup_2 rfl rfl rfl ?_
    refine aw_iconst (n := 4) (v := 5) dX10_greatestGroup_3 rfl (by decide) ?_
    refine aw_icmp_ge (n := 7) (tgt := 47) dX10_greatestGroup_4 rfl (by decide) (fun c => ?_) (fun c => ?_)
    · replace h := Ok.ift h c
      exact aw_le' (hJ_47 v1 v2 D (hR2 D (Ok.dn h :))) ⟨rfl, ⟨rfl, ⟨rfl, trivial⟩⟩⟩
    · replace h := Ok.iff h c
      refine aw_aload_n (n := 8) (i := 0) dX10_greatestGroup_7 rfl rfl rfl ?_
      refine aw_getR (n := 11) (j := 0) (r := 2) hG.1 fl_RX10_27 (sF_79 hS) rfl dX10_greatestGroup_8 rfl ?_
      refine aw_getR (n := 14) (j := 16) (r := 14) hG.1 fl_RX10_43 (sF_2 hS) rfl dX10_greatestGroup_11 rfl ?_
      refine aw_iload_n (n := 15) (i := 3) dX10_greatestGroup_14 rfl rfl rfl ?_
      obtain ⟨g_19, h⟩ := Ok.gd h
      refine aw_iaload (n := 16) hG.1 (sF_14 hS) (aIn_in g_19) dX10_greatestGroup_15 rfl ?_
      refine aw_if_le (n := 19) (tgt := 41) dX10_greatestGroup_16 rfl (by decide) (fun c => ?_) (fun c => ?_)
      · replace h := Ok.ift h c
        obtain ⟨v3_20, e_v3_20, h⟩ := Ok.let_ h
        refine aw_iinc (n := 44) (al' := [some (.ref 79), some (.int v1), some (.int v2), some (.int v3_20), none, none]) dX10_greatestGroup_41 rfl rfl e_v3_20 (by decide) rfl ?_
        refine aw_goto (tgt := 2) dX10_greatestGroup_44 (by decide) ?_
        exact aw_le' (hL2 (v3_20, D) (Ok.dn h :)) ⟨rfl, ⟨rfl, ⟨rfl, ⟨rfl, trivial⟩⟩⟩⟩
      · replace h := Ok.iff h c
        refine aw_aload_n (n := 20) (i := 0) dX10_greatestGroup_19 rfl rfl rfl ?_
        refine aw_getR (n := 23) (j := 2) (r := 57) hG.1 fl_RX10_35 (sF_79 hS) rfl dX10_greatestGroup_20 rfl ?_
        refine aw_iload_n (n := 24) (i := 1) dX10_greatestGroup_23 rfl rfl rfl ?_
        refine aw_iload_n (n := 25) (i := 2) dX10_greatestGroup_24 rfl rfl rfl ?_
        refine aw_iload_n (n := 26) (i := 3) dX10_greatestGroup_25 rfl rfl rfl ?_
        refine aw_cVv (M := M_X10_greatestGroup) (n := 29) (As := [.int v1, .int v2, .int v3]) (rest := []) hG.1 lk_RX10_65 rfl rfl (sF_57 hS) (c_X0_fill hG hS (h := Ok.bind h)) (by decide) (Nat.le_of_ble_eq_true rfl) (by decide) (by decide) dX10_greatestGroup_26 rfl (fun D_21 h => ?_)
        refine aw_aload_n (n := 30) (i := 0) dX10_greatestGroup_29 rfl rfl rfl ?_
        refine aw_getR (n := 33) (j := 2) (r := 57) hG.1 fl_RX10_35 (sF_79 hS) rfl dX10_greatestGroup_30 rfl ?_
        refine aw_aload_n (n := 34) (i := 0) dX10_greatestGroup_33 rfl rfl rfl ?_
        refine aw_getR (n := 37) (j := 6) (r := 81) hG.1 fl_RX10_15 (sF_79 hS) rfl dX10_greatestGroup_34 rfl ?_
        refine aw_iload_n (n := 38) (i := 3) dX10_greatestGroup_37 rfl rfl rfl ?_
        refine aw_cVv (M := M_X10_greatestGroup) (n := 41) (As := [.ref 81, .int v3]) (rest := []) hG.1 lk_RX10_71 rfl rfl (sF_57 hS) (c_X0_saveRaw hG hS (h := Ok.bind h) (sF_81 hS)) (by decide) (Nat.le_of_ble_eq_true rfl) (by decide) (by decide) dX10_greatestGroup_38 rfl (fun D_22 h => ?_)
        obtain ⟨v3_23, e_v3_23, h⟩ := Ok.let_ h
        refine aw_iinc (n := 44) (al' := [some (.ref 79), some (.int v1), some (.int v2), some (.int v3_23), none, none]) dX10_greatestGroup_41 rfl rfl e_v3_23 (by decide) rfl ?_
        refine aw_goto (tgt := 2) dX10_greatestGroup_44 (by decide) ?_
        exact aw_le' (hL2 (v3_23, D_22) (Ok.dn h :)) ⟨rfl, ⟨rfl, ⟨rfl, ⟨rfl, trivial⟩⟩⟩⟩
  refine aw_iconst (n := 1) (v := 0) dX10_greatestGroup_0 rfl (by decide) ?_
  refine aw_istore_n (n := 2) (i := 3) (al' := [some (.ref 79), some (.int v1), some (.int v2), some (.int 0), none, none]) dX10_greatestGroup_1 rfl rfl rfl (by decide) rfl ?_
  exact aw_le' (hJ_2 v1 v2 0 D h) ⟨rfl, ⟨rfl, ⟨rfl, ⟨rfl, trivial⟩⟩⟩⟩
theorem dX10_chooseGate_0 : decode cX10_chooseGate 0 = .ok (.iconst (-1), 1) := by decide +kernel
theorem dX10_chooseGate_1 : decode cX10_chooseGate 1 = .ok (.istore_n 2, 1) := by decide +kernel
theorem dX10_chooseGate_2 : decode cX10_chooseGate 2 = .ok (.iconst 0, 1) := by decide +kernel
theorem dX10_chooseGate_3 : decode cX10_chooseGate 3 = .ok (.istore_n 3, 1) := by decide +kernel
theorem dX10_chooseGate_4 : decode cX10_chooseGate 4 = .ok (.iload_n 3, 1) := by decide +kernel
theorem dX10_chooseGate_5 : decode cX10_chooseGate 5 = .ok (.aload_n 0, 1) := by decide +kernel
theorem dX10_chooseGate_6 : decode cX10_chooseGate 6 = .ok (.getfield 27, 3) := by decide +kernel
theorem dX10_chooseGate_9 : decode cX10_chooseGate 9 = .ok (.getfield 121, 3) := by decide +kernel
theorem dX10_chooseGate_12 : decode cX10_chooseGate 12 = .ok (.if_icmp .ge 44, 3) := by decide +kernel
theorem dX10_chooseGate_15 : decode cX10_chooseGate 15 = .ok (.aload_n 0, 1) := by decide +kernel
theorem dX10_chooseGate_16 : decode cX10_chooseGate 16 = .ok (.aload_n 0, 1) := by decide +kernel
theorem dX10_chooseGate_17 : decode cX10_chooseGate 17 = .ok (.getfield 27, 3) := by decide +kernel
theorem dX10_chooseGate_20 : decode cX10_chooseGate 20 = .ok (.getfield 56, 3) := by decide +kernel
theorem dX10_chooseGate_23 : decode cX10_chooseGate 23 = .ok (.iload_n 3, 1) := by decide +kernel
theorem dX10_chooseGate_24 : decode cX10_chooseGate 24 = .ok (.iaload, 1) := by decide +kernel
theorem dX10_chooseGate_25 : decode cX10_chooseGate 25 = .ok (.iload_n 1, 1) := by decide +kernel
theorem dX10_chooseGate_26 : decode cX10_chooseGate 26 = .ok (.invokevirtual 124, 3) := by decide +kernel
theorem dX10_chooseGate_29 : decode cX10_chooseGate 29 = .ok (.istore 4, 2) := by decide +kernel
theorem dX10_chooseGate_31 : decode cX10_chooseGate 31 = .ok (.iload_n 2, 1) := by decide +kernel
theorem dX10_chooseGate_32 : decode cX10_chooseGate 32 = .ok (.iconst (-1), 1) := by decide +kernel
theorem dX10_chooseGate_33 : decode cX10_chooseGate 33 = .ok (.if_icmp .eq 9, 3) := by decide +kernel
theorem dX10_chooseGate_36 : decode cX10_chooseGate 36 = .ok (.iload 4, 2) := by decide +kernel
theorem dX10_chooseGate_38 : decode cX10_chooseGate 38 = .ok (.iload_n 2, 1) := by decide +kernel
theorem dX10_chooseGate_39 : decode cX10_chooseGate 39 = .ok (.if_icmp .ge 11, 3) := by decide +kernel
theorem dX10_chooseGate_42 : decode cX10_chooseGate 42 = .ok (.iload 4, 2) := by decide +kernel
theorem dX10_chooseGate_44 : decode cX10_chooseGate 44 = .ok (.istore_n 2, 1) := by decide +kernel
theorem dX10_chooseGate_45 : decode cX10_chooseGate 45 = .ok (.aload_n 0, 1) := by decide +kernel
theorem dX10_chooseGate_46 : decode cX10_chooseGate 46 = .ok (.iload_n 3, 1) := by decide +kernel
theorem dX10_chooseGate_47 : decode cX10_chooseGate 47 = .ok (.putfield 128, 3) := by decide +kernel
theorem dX10_chooseGate_50 : decode cX10_chooseGate 50 = .ok (.iinc 3 1, 3) := by decide +kernel
theorem dX10_chooseGate_53 : decode cX10_chooseGate 53 = .ok (.goto (-49), 3) := by decide +kernel
theorem dX10_chooseGate_56 : decode cX10_chooseGate 56 = .ok (.iload_n 2, 1) := by decide +kernel
theorem dX10_chooseGate_57 : decode cX10_chooseGate 57 = .ok (.ireturn, 1) := by decide +kernel
def J_X10_chooseGate_56 (v2 : Int32) (D : aD) : Option (Int32 × aD) :=
  some (v2, D)
def B_X10_chooseGate_4 (v1 : Int32) (v2 : Int32) (v3 : Int32) (D : aD) : Option ((Int32 × Int32 × aD) ⊕ ((Int32 × aD))) :=
  if gI D 2 5 ≤ v3 then (some (.inr (v2, D))) else (aGd (aIn v3 5) (aBi (f_X10_greatestGroup (gI D 11 v3.toNatClampNeg) v1 D) (fun y_2 D_3 => if v2 = (-1) then (aLet (pI D_3 79 5 v3) (fun D_4 => aLet (v3 + 1) (fun v3_5 => some (.inl (y_2, v3_5, D_4))))) else (if v2 ≤ y_2 then (aLet (v3 + 1) (fun v3_6 => some (.inl (v2, v3_6, D_3)))) else (aLet (pI D_3 79 5 v3) (fun D_7 => aLet (v3 + 1) (fun v3_8 => some (.inl (y_2, v3_8, D_7)))))))))
def J_X10_chooseGate_4 (v1 : Int32) (v2 : Int32) (v3 : Int32) (D : aD) : Option (Int32 × aD) :=
  (aLp (fun s => B_X10_chooseGate_4 v1 s.1 s.2.1 s.2.2) (v2, v3, D)).bind (fun r => J_X10_chooseGate_56 (r.1) r.2)
def f_X10_chooseGate (v1 : Int32) (D : aD) : Option (Int32 × aD) :=
  J_X10_chooseGate_4 v1 (-1) 0 D
set_option maxRecDepth 100000 in
set_option maxHeartbeats 800000 in
theorem c_X10_chooseGate {G : aG} (hG : gOK G) {shp : List aSh} (hS : aShp shp) {fr : Option Nat} {v1 : Int32} {D : aD} {K : Int32 → aD → Prop} (h : Ok2 (f_X10_chooseGate v1 D) K) : AC G (aRm 6 0 0) M_X10_chooseGate [.ref 79, .int v1] fr shp D (aQi shp K) := by
  replace h := Ok2.ok h
  unfold f_X10_chooseGate at h
  refine AC.of (al := [some (.ref 79), some (.int v1), none, none, none]) (r := 3) (by decide) (Nat.le_of_ble_eq_true rfl) rfl ?_
  have hJ_56 : ∀ (v2 : Int32) (D : aD), Ok (J_X10_chooseGate_56 v2 D) (fun r => K r.1 r.2) → AW G (aRm 6 0 0) M_X10_chooseGate fr 0 0 56 [none, none, some (.int v2), none, none] [] shp D (aQi shp K) := by
    intro v2 D h
    unfold J_X10_chooseGate_56 at h
    refine aw_iload_n (n := 57) (i := 2) dX10_chooseGate_56 rfl rfl rfl ?_
    exact aw_iret rfl (by decide) (by decide) dX10_chooseGate_57 ⟨_, rfl, rfl, (Ok.dn h :)⟩
  have hJ_4 : ∀ (v1 : Int32) (v2 : Int32) (v3 : Int32) (D : aD), Ok (J_X10_chooseGate_4 v1 v2 v3 D) (fun r => K r.1 r.2) → AW G (aRm 6 0 0) M_X10_chooseGate fr 0 0 4 [some (.ref 79), some (.int v1), some (.int v2), some (.int v3), none] [] shp D (aQi shp K) := by
    intro v1 v2 v3 D h
    unfold J_X10_chooseGate_4 at h
    refine Ok.lp (P := fun s => AW G (aRm 6 0 0) M_X10_chooseGate fr 0 0 4 [some (.ref 79), some (.int v1), some (.int (s.1)), some (.int (s.2.1)), none] [] shp s.2.2 (aQi shp K)) (fun s Kb4 hL4 hR4 h => ?_) (v2, v3, D) (Ok.bind h)
    obtain ⟨v2, v3, D⟩ := s
    replace h : Ok (B_X10_chooseGate_4 v1 v2 v3 D) Kb4 := h
    unfold B_X10_chooseGate_4 at h
    refine aw_iload_n (n := 5) (i := 3) dX10_chooseGate_4 rfl rfl rfl ?_
    refine aw_aload_n (n := 6) (i := 0) dX10_chooseGate_5 rfl rfl rfl ?_
    refine aw_getR (n := 9) (j := 0) (r := 2) hG.1 fl_RX10_27 (sF_79 hS) rfl dX10_chooseGate_6 rfl ?_
    refine aw_getI (n := 12) (j := 5) hG.1 fl_RX10_121 (sF_2 hS) rfl dX10_chooseGate_9 rfl ?_
    refine aw_icmp_ge (n := 15) (tgt := 56) dX10_chooseGate_12 rfl (by decide) (fun c => ?_) (fun c => ?_)
    · replace h := Ok.ift h c
      exact aw_le' (hJ_56 v2 D (hR4 (v2, D) (Ok.dn h :))) ⟨rfl, trivial⟩
    · replace h := Ok.iff h c
      refine aw_aload_n (n := 16) (i := 0) dX10_chooseGate_15 rfl rfl rfl ?_
      refine aw_aload_n (n := 17) (i := 0) dX10_chooseGate_16 rfl rfl rfl ?_
      refine aw_getR (n := 20) (j := 0) (r := 2) hG.1 fl_RX10_27 (sF_79 hS) rfl dX10_chooseGate_17 rfl ?_
      refine aw_getR (n := 23) (j := 13) (r := 11) hG.1 fl_RX10_56 (sF_2 hS) rfl dX10_chooseGate_20 rfl ?_
      refine aw_iload_n (n := 24) (i := 3) dX10_chooseGate_23 rfl rfl rfl ?_
      obtain ⟨g_1, h⟩ := Ok.gd h
      refine aw_iaload (n := 25) hG.1 (sF_11 hS) (aIn_in g_1) dX10_chooseGate_24 rfl ?_
      refine aw_iload_n (n := 26) (i := 1) dX10_chooseGate_25 rfl rfl rfl ?_
      refine aw_cVi (M := M_X10_chooseGate) (n := 29) (As := [.int (gI D 11 v3.toNatClampNeg), .int v1]) (rest := []) hG.1 lk_RX10_124 rfl rfl (sF_79 hS) (c_X10_greatestGroup hG hS (h := Ok.bi h)) (by decide) (Nat.le_of_ble_eq_true rfl) (by decide) (by decide) dX10_chooseGate_26 rfl (fun y_2 D_3 h => ?_)
      refine aw_istore (n := 31) (i := 4) (al' := [some (.ref 79), some (.int v1), some (.int v2), some (.int v3), some (.int y_2)]) dX10_chooseGate_29 rfl rfl (by decide) rfl ?_
      refine aw_iload_n (n := 32) (i := 2) dX10_chooseGate_31 rfl rfl rfl ?_
      refine aw_iconst (n := 33) (v := (-1)) dX10_chooseGate_32 rfl (by decide) ?_
      refine aw_icmp_eq (n := 36) (tgt := 42) dX10_chooseGate_33 rfl (by decide) (fun c => ?_) (fun c => ?_)
      · replace h := Ok.ift h c
        refine aw_iload (n := 44) (i := 4) dX10_chooseGate_42 rfl rfl ?_
        refine aw_istore_n (n := 45) (i := 2) (al' := [some (.ref 79), some (.int v1), some (.int y_2), some (.int v3), some (.int y_2)]) dX10_chooseGate_44 rfl rfl rfl (by decide) rfl ?_
        refine aw_aload_n (n := 46) (i := 0) dX10_chooseGate_45 rfl rfl rfl ?_
        refine aw_iload_n (n := 47) (i := 3) dX10_chooseGate_46 rfl rfl rfl ?_
        obtain ⟨D_4, e_D_4, h⟩ := Ok.let_ h
        refine aw_putI (n := 50) (j := 5) hG.1 fl_RX10_128 (sF_79 hS) rfl e_D_4 dX10_chooseGate_47 rfl ?_
        obtain ⟨v3_5, e_v3_5, h⟩ := Ok.let_ h
        refine aw_iinc (n := 53) (al' := [some (.ref 79), some (.int v1), some (.int y_2), some (.int v3_5), some (.int y_2)]) dX10_chooseGate_50 rfl rfl e_v3_5 (by decide) rfl ?_
        refine aw_goto (tgt := 4) dX10_chooseGate_53 (by decide) ?_
        exact aw_le' (hL4 (y_2, v3_5, D_4) (Ok.dn h :)) ⟨rfl, ⟨rfl, ⟨rfl, ⟨rfl, trivial⟩⟩⟩⟩
      · replace h := Ok.iff h c
        refine aw_iload (n := 38) (i := 4) dX10_chooseGate_36 rfl rfl ?_
        refine aw_iload_n (n := 39) (i := 2) dX10_chooseGate_38 rfl rfl rfl ?_
        refine aw_icmp_ge (n := 42) (tgt := 50) dX10_chooseGate_39 rfl (by decide) (fun c => ?_) (fun c => ?_)
        · replace h := Ok.ift h c
          obtain ⟨v3_6, e_v3_6, h⟩ := Ok.let_ h
          refine aw_iinc (n := 53) (al' := [some (.ref 79), some (.int v1), some (.int v2), some (.int v3_6), some (.int y_2)]) dX10_chooseGate_50 rfl rfl e_v3_6 (by decide) rfl ?_
          refine aw_goto (tgt := 4) dX10_chooseGate_53 (by decide) ?_
          exact aw_le' (hL4 (v2, v3_6, D_3) (Ok.dn h :)) ⟨rfl, ⟨rfl, ⟨rfl, ⟨rfl, trivial⟩⟩⟩⟩
        · replace h := Ok.iff h c
          refine aw_iload (n := 44) (i := 4) dX10_chooseGate_42 rfl rfl ?_
          refine aw_istore_n (n := 45) (i := 2) (al' := [some (.ref 79), some (.int v1), some (.int y_2), some (.int v3), some (.int y_2)]) dX10_chooseGate_44 rfl rfl rfl (by decide) rfl ?_
          refine aw_aload_n (n := 46) (i := 0) dX10_chooseGate_45 rfl rfl rfl ?_
          refine aw_iload_n (n := 47) (i := 3) dX10_chooseGate_46 rfl rfl rfl ?_
          obtain ⟨D_7, e_D_7, h⟩ := Ok.let_ h
          refine aw_putI (n := 50) (j := 5) hG.1 fl_RX10_128 (sF_79 hS) rfl e_D_7 dX10_chooseGate_47 rfl ?_
          obtain ⟨v3_8, e_v3_8, h⟩ := Ok.let_ h
          refine aw_iinc (n := 53) (al' := [some (.ref 79), some (.int v1), some (.int y_2), some (.int v3_8), some (.int y_2)]) dX10_chooseGate_50 rfl rfl e_v3_8 (by decide) rfl ?_
          refine aw_goto (tgt := 4) dX10_chooseGate_53 (by decide) ?_
          exact aw_le' (hL4 (y_2, v3_8, D_7) (Ok.dn h :)) ⟨rfl, ⟨rfl, ⟨rfl, ⟨rfl, trivial⟩⟩⟩⟩
  refine aw_iconst (n := 1) (v := (-1)) dX10_chooseGate_0 rfl (by decide) ?_
  refine aw_istore_n (n := 2) (i := 2) (al' := [some (.ref 79), some (.int v1), some (.int (-1)), none, none]) dX10_chooseGate_1 rfl rfl rfl (by decide) rfl ?_
  refine aw_iconst (n := 3) (v := 0) dX10_chooseGate_2 rfl (by decide) ?_
  refine aw_istore_n (n := 4) (i := 3) (al' := [some (.ref 79), some (.int v1), some (.int (-1)), some (.int 0), none]) dX10_chooseGate_3 rfl rfl rfl (by decide) rfl ?_
  exact aw_le' (hJ_4 v1 (-1) 0 D h) ⟨rfl, ⟨rfl, ⟨rfl, ⟨rfl, trivial⟩⟩⟩⟩
