theorem dX12_days_0 : decode cX12_days 0 = .ok (.aload_n 0, 1) := by decide +kernel
theorem dX12_days_1 : decode cX12_days 1 = .ok (.iconst 0, 1) := by decide +kernel
theorem dX12_days_2 : decode cX12_days 2 = .ok (.putfield 157, 3) := by decide +kernel
theorem dX12_days_5 : decode cX12_days 5 = .ok (.aload_n 0, 1) := by decide +kernel
theorem dX12_days_6 : decode cX12_days 6 = .ok (.iload_n 1, 1) := by decide +kernel
theorem dX12_days_7 : decode cX12_days 7 = .ok (.invokevirtual 343, 3) := by decide +kernel
theorem dX12_days_10 : decode cX12_days 10 = .ok (.ifCond .ne 9, 3) := by decide +kernel
theorem dX12_days_13 : decode cX12_days 13 = .ok (.aload_n 0, 1) := by decide +kernel
theorem dX12_days_14 : decode cX12_days 14 = .ok (.iconst 1, 1) := by decide +kernel
theorem dX12_days_15 : decode cX12_days 15 = .ok (.invokevirtual 290, 3) := by decide +kernel
theorem dX12_days_18 : decode cX12_days 18 = .ok (.ireturn, 1) := by decide +kernel
theorem dX12_days_19 : decode cX12_days 19 = .ok (.iload_n 3, 1) := by decide +kernel
theorem dX12_days_20 : decode cX12_days 20 = .ok (.iconst 0, 1) := by decide +kernel
theorem dX12_days_21 : decode cX12_days 21 = .ok (.bipush 100, 2) := by decide +kernel
theorem dX12_days_23 : decode cX12_days 23 = .ok (.invokestatic 160, 3) := by decide +kernel
theorem dX12_days_26 : decode cX12_days 26 = .ok (.ifCond .ne 9, 3) := by decide +kernel
theorem dX12_days_29 : decode cX12_days 29 = .ok (.aload_n 0, 1) := by decide +kernel
theorem dX12_days_30 : decode cX12_days 30 = .ok (.iconst 2, 1) := by decide +kernel
theorem dX12_days_31 : decode cX12_days 31 = .ok (.invokevirtual 290, 3) := by decide +kernel
theorem dX12_days_34 : decode cX12_days 34 = .ok (.ireturn, 1) := by decide +kernel
theorem dX12_days_35 : decode cX12_days 35 = .ok (.iconst 0, 1) := by decide +kernel
theorem dX12_days_36 : decode cX12_days 36 = .ok (.istore 4, 2) := by decide +kernel
theorem dX12_days_38 : decode cX12_days 38 = .ok (.iload 4, 2) := by decide +kernel
theorem dX12_days_40 : decode cX12_days 40 = .ok (.iconst 5, 1) := by decide +kernel
theorem dX12_days_41 : decode cX12_days 41 = .ok (.if_icmp .ge 22, 3) := by decide +kernel
theorem dX12_days_44 : decode cX12_days 44 = .ok (.aload_n 0, 1) := by decide +kernel
theorem dX12_days_45 : decode cX12_days 45 = .ok (.getfield 133, 3) := by decide +kernel
theorem dX12_days_48 : decode cX12_days 48 = .ok (.iload 4, 2) := by decide +kernel
theorem dX12_days_50 : decode cX12_days 50 = .ok (.aload_n 0, 1) := by decide +kernel
theorem dX12_days_51 : decode cX12_days 51 = .ok (.iload 4, 2) := by decide +kernel
theorem dX12_days_53 : decode cX12_days 53 = .ok (.invokevirtual 356, 3) := by decide +kernel
theorem dX12_days_56 : decode cX12_days 56 = .ok (.iastore, 1) := by decide +kernel
theorem dX12_days_57 : decode cX12_days 57 = .ok (.iinc 4 1, 3) := by decide +kernel
theorem dX12_days_60 : decode cX12_days 60 = .ok (.goto (-22), 3) := by decide +kernel
theorem dX12_days_63 : decode cX12_days 63 = .ok (.aload_n 0, 1) := by decide +kernel
theorem dX12_days_64 : decode cX12_days 64 = .ok (.invokevirtual 359, 3) := by decide +kernel
theorem dX12_days_67 : decode cX12_days 67 = .ok (.istore 4, 2) := by decide +kernel
theorem dX12_days_69 : decode cX12_days 69 = .ok (.iload_n 2, 1) := by decide +kernel
theorem dX12_days_70 : decode cX12_days 70 = .ok (.istore 5, 2) := by decide +kernel
theorem dX12_days_72 : decode cX12_days 72 = .ok (.iconst 0, 1) := by decide +kernel
theorem dX12_days_73 : decode cX12_days 73 = .ok (.istore 6, 2) := by decide +kernel
theorem dX12_days_75 : decode cX12_days 75 = .ok (.iconst 0, 1) := by decide +kernel
theorem dX12_days_76 : decode cX12_days 76 = .ok (.istore 7, 2) := by decide +kernel
theorem dX12_days_78 : decode cX12_days 78 = .ok (.iload 7, 2) := by decide +kernel
theorem dX12_days_80 : decode cX12_days 80 = .ok (.iload_n 3, 1) := by decide +kernel
theorem dX12_days_81 : decode cX12_days 81 = .ok (.if_icmp .ge 100, 3) := by decide +kernel
theorem dX12_days_84 : decode cX12_days 84 = .ok (.iconst 0, 1) := by decide +kernel
theorem dX12_days_85 : decode cX12_days 85 = .ok (.istore 8, 2) := by decide +kernel
theorem dX12_days_87 : decode cX12_days 87 = .ok (.iload 4, 2) := by decide +kernel
theorem dX12_days_89 : decode cX12_days 89 = .ok (.ifCond .le 65, 3) := by decide +kernel
theorem dX12_days_92 : decode cX12_days 92 = .ok (.iload 5, 2) := by decide +kernel
theorem dX12_days_94 : decode cX12_days 94 = .ok (.ldc_w 421, 3) := by decide +kernel
theorem dX12_days_97 : decode cX12_days 97 = .ok (.imul, 1) := by decide +kernel
theorem dX12_days_98 : decode cX12_days 98 = .ok (.sipush 12345, 3) := by decide +kernel
theorem dX12_days_101 : decode cX12_days 101 = .ok (.iadd, 1) := by decide +kernel
theorem dX12_days_102 : decode cX12_days 102 = .ok (.istore 5, 2) := by decide +kernel
theorem dX12_days_104 : decode cX12_days 104 = .ok (.iload 5, 2) := by decide +kernel
theorem dX12_days_106 : decode cX12_days 106 = .ok (.bipush 16, 2) := by decide +kernel
theorem dX12_days_108 : decode cX12_days 108 = .ok (.ishr, 1) := by decide +kernel
theorem dX12_days_109 : decode cX12_days 109 = .ok (.sipush 32767, 3) := by decide +kernel
theorem dX12_days_112 : decode cX12_days 112 = .ok (.iand, 1) := by decide +kernel
theorem dX12_days_113 : decode cX12_days 113 = .ok (.iload 4, 2) := by decide +kernel
theorem dX12_days_115 : decode cX12_days 115 = .ok (.irem, 1) := by decide +kernel
theorem dX12_days_116 : decode cX12_days 116 = .ok (.istore 9, 2) := by decide +kernel
theorem dX12_days_118 : decode cX12_days 118 = .ok (.iload 9, 2) := by decide +kernel
theorem dX12_days_120 : decode cX12_days 120 = .ok (.aload_n 0, 1) := by decide +kernel
theorem dX12_days_121 : decode cX12_days 121 = .ok (.getfield 27, 3) := by decide +kernel
theorem dX12_days_124 : decode cX12_days 124 = .ok (.bipush 10, 2) := by decide +kernel
theorem dX12_days_126 : decode cX12_days 126 = .ok (.iload 8, 2) := by decide +kernel
theorem dX12_days_128 : decode cX12_days 128 = .ok (.iadd, 1) := by decide +kernel
theorem dX12_days_129 : decode cX12_days 129 = .ok (.iaload, 1) := by decide +kernel
theorem dX12_days_130 : decode cX12_days 130 = .ok (.if_icmp .lt 24, 3) := by decide +kernel
theorem dX12_days_133 : decode cX12_days 133 = .ok (.iload 9, 2) := by decide +kernel
theorem dX12_days_135 : decode cX12_days 135 = .ok (.aload_n 0, 1) := by decide +kernel
theorem dX12_days_136 : decode cX12_days 136 = .ok (.getfield 27, 3) := by decide +kernel
theorem dX12_days_139 : decode cX12_days 139 = .ok (.bipush 10, 2) := by decide +kernel
theorem dX12_days_141 : decode cX12_days 141 = .ok (.iload 8, 2) := by decide +kernel
theorem dX12_days_143 : decode cX12_days 143 = .ok (.iadd, 1) := by decide +kernel
theorem dX12_days_144 : decode cX12_days 144 = .ok (.iaload, 1) := by decide +kernel
theorem dX12_days_145 : decode cX12_days 145 = .ok (.isub, 1) := by decide +kernel
theorem dX12_days_146 : decode cX12_days 146 = .ok (.istore 9, 2) := by decide +kernel
theorem dX12_days_148 : decode cX12_days 148 = .ok (.iinc 8 1, 3) := by decide +kernel
theorem dX12_days_151 : decode cX12_days 151 = .ok (.goto (-33), 3) := by decide +kernel
theorem dX12_days_154 : decode cX12_days 154 = .ok (.iload 6, 2) := by decide +kernel
theorem dX12_days_156 : decode cX12_days 156 = .ok (.aload_n 0, 1) := by decide +kernel
theorem dX12_days_157 : decode cX12_days 157 = .ok (.getfield 133, 3) := by decide +kernel
theorem dX12_days_160 : decode cX12_days 160 = .ok (.iload 8, 2) := by decide +kernel
theorem dX12_days_162 : decode cX12_days 162 = .ok (.iaload, 1) := by decide +kernel
theorem dX12_days_163 : decode cX12_days 163 = .ok (.iload_n 1, 1) := by decide +kernel
theorem dX12_days_164 : decode cX12_days 164 = .ok (.if_icmp .ne 7, 3) := by decide +kernel
theorem dX12_days_167 : decode cX12_days 167 = .ok (.iconst 1, 1) := by decide +kernel
theorem dX12_days_168 : decode cX12_days 168 = .ok (.goto 4, 3) := by decide +kernel
theorem dX12_days_171 : decode cX12_days 171 = .ok (.iconst 0, 1) := by decide +kernel
theorem dX12_days_172 : decode cX12_days 172 = .ok (.iadd, 1) := by decide +kernel
theorem dX12_days_173 : decode cX12_days 173 = .ok (.istore 6, 2) := by decide +kernel
theorem dX12_days_175 : decode cX12_days 175 = .ok (.iinc 7 1, 3) := by decide +kernel
theorem dX12_days_178 : decode cX12_days 178 = .ok (.goto (-100), 3) := by decide +kernel
theorem dX12_days_181 : decode cX12_days 181 = .ok (.iload 6, 2) := by decide +kernel
theorem dX12_days_183 : decode cX12_days 183 = .ok (.ireturn, 1) := by decide +kernel
def J_X12_days_181 (v6 : Int32) (D : aD) : Option (Int32 × aD) :=
  some (v6, D)
def J_X12_days_154 (v1 : Int32) (v3 : Int32) (v4 : Int32) (v5 : Int32) (v6 : Int32) (v7 : Int32) (v8 : Int32) (D : aD) : Option ((Int32 × Int32 × Int32 × aD) ⊕ ((Int32 × aD))) :=
  aGd (aIn v8 5) (if gI D 124 v8.toNatClampNeg ≠ v1 then (aLet (v6 + 0) (fun v6_9 => aLet (v7 + 1) (fun v7_10 => some (.inl (v5, v6_9, v7_10, D))))) else (aLet (v6 + 1) (fun v6_11 => aLet (v7 + 1) (fun v7_12 => some (.inl (v5, v6_11, v7_12, D))))))
def B_X12_days_118 (v1 : Int32) (v3 : Int32) (v4 : Int32) (v5 : Int32) (v6 : Int32) (v7 : Int32) (v8 : Int32) (v9 : Int32) (D : aD) : Option ((Int32 × Int32 × aD) ⊕ ((Int32 × aD))) :=
  aGd (aIn (10 + v8) 32) (if v9 < gI D 91 (10 + v8).toNatClampNeg then (some (.inr (v8, D))) else (aGd (aIn (10 + v8) 32) (aLet (v9 - (gI D 91 (10 + v8).toNatClampNeg)) (fun v9_18 => aLet (v8 + 1) (fun v8_19 => some (.inl (v8_19, v9_18, D)))))))
def J_X12_days_118 (v1 : Int32) (v3 : Int32) (v4 : Int32) (v5 : Int32) (v6 : Int32) (v7 : Int32) (v8 : Int32) (v9 : Int32) (D : aD) : Option ((Int32 × Int32 × Int32 × aD) ⊕ ((Int32 × aD))) :=
  (aLp (fun s => B_X12_days_118 v1 v3 v4 v5 v6 v7 s.1 s.2.1 s.2.2) (v8, v9, D)).bind (fun r => J_X12_days_154 v1 v3 v4 v5 v6 v7 (r.1) r.2)
def B_X12_days_78 (v1 : Int32) (v3 : Int32) (v4 : Int32) (v5 : Int32) (v6 : Int32) (v7 : Int32) (D : aD) : Option ((Int32 × Int32 × Int32 × aD) ⊕ ((Int32 × aD))) :=
  if v3 ≤ v7 then (some (.inr (v6, D))) else (if v4 ≤ 0 then (J_X12_days_154 v1 v3 v4 v5 v6 v7 0 D) else (aLet ((v5 * 1103515245) + 12345) (fun v5_13 => aGd (aNz v4) (aLet (((v5_13 >>> ((16 : Int32) &&& 31)) &&& 32767) - ((v5_13 >>> ((16 : Int32) &&& 31)) &&& 32767) / v4 * v4) (fun v9_15 => J_X12_days_118 v1 v3 v4 v5_13 v6 v7 0 v9_15 D)))))
def J_X12_days_78 (v1 : Int32) (v3 : Int32) (v4 : Int32) (v5 : Int32) (v6 : Int32) (v7 : Int32) (D : aD) : Option (Int32 × aD) :=
  (aLp (fun s => B_X12_days_78 v1 v3 v4 s.1 s.2.1 s.2.2.1 s.2.2.2) (v5, v6, v7, D)).bind (fun r => J_X12_days_181 (r.1) r.2)
def J_X12_days_63 (v1 : Int32) (v2 : Int32) (v3 : Int32) (D : aD) : Option (Int32 × aD) :=
  aBi (f_X12_allWeights D) (fun y_6 D_7 => J_X12_days_78 v1 v3 y_6 v2 0 0 D_7)
def B_X12_days_38 (v1 : Int32) (v2 : Int32) (v3 : Int32) (v4 : Int32) (D : aD) : Option ((Int32 × aD) ⊕ ((aD))) :=
  if 5 ≤ v4 then (some (.inr D)) else (aBi (f_X12_winnerBy v4 D) (fun y_20 D_21 => aGd (aIn v4 5) (aLet (pI D_21 124 v4.toNatClampNeg y_20) (fun D_23 => aLet (v4 + 1) (fun v4_24 => some (.inl (v4_24, D_23)))))))
def J_X12_days_38 (v1 : Int32) (v2 : Int32) (v3 : Int32) (v4 : Int32) (D : aD) : Option (Int32 × aD) :=
  (aLp (fun s => B_X12_days_38 v1 v2 v3 s.1 s.2) (v4, D)).bind (fun r => J_X12_days_63 v1 v2 v3 r)
def f_X12_days (v1 : Int32) (v2 : Int32) (v3 : Int32) (D : aD) : Option (Int32 × aD) :=
  aLet (pI D 88 2 0) (fun D_1 => aBi (f_X12_isGarden v1 D_1) (fun y_2 D_3 => if y_2 ≠ 0 then (aBi (f_X12_isIn v3 0 100 D_3) (fun y_4 D_5 => if y_4 ≠ 0 then (J_X12_days_38 v1 v2 v3 0 D_5) else (aBi (f_X12_fail 2 D_5) (fun y_25 D_26 => some (y_25, D_26))))) else (aBi (f_X12_fail 1 D_3) (fun y_27 D_28 => some (y_27, D_28)))))
set_option maxRecDepth 100000 in
set_option maxHeartbeats 800000 in
theorem c_X12_days {G : aG} (hG : gOK G) {shp : List aSh} (hS : aShp shp) {fr : Option Nat} {v1 : Int32} {v2 : Int32} {v3 : Int32} {D : aD} {K : Int32 → aD → Prop} (h : Ok2 (f_X12_days v1 v2 v3 D) K) : AC G (aRm 6 0 0) M_X12_days [.ref 88, .int v1, .int v2, .int v3] fr shp D (aQi shp K) := by
  replace h := Ok2.ok h
  unfold f_X12_days at h
  refine AC.of (al := [some (.ref 88), some (.int v1), some (.int v2), some (.int v3), none, none, none, none, none, none]) (r := 6) (by decide) (Nat.le_of_ble_eq_true rfl) rfl ?_
  have hJ_181 : ∀ (v6 : Int32) (D : aD), Ok (J_X12_days_181 v6 D) (fun r => K r.1 r.2) → AW G (aRm 6 0 0) M_X12_days fr 0 0 181 [none, none, none, none, none, none, some (.int v6), none, none, none] [] shp D (aQi shp K) := by
    intro v6 D h
    unfold J_X12_days_181 at h
    refine aw_iload (n := 183) (i := 6) dX12_days_181 rfl rfl ?_
    exact aw_iret rfl (by decide) (by decide) dX12_days_183 ⟨_, rfl, rfl, (Ok.dn h :)⟩
  have hJ_78 : ∀ (v1 : Int32) (v3 : Int32) (v4 : Int32) (v5 : Int32) (v6 : Int32) (v7 : Int32) (D : aD), Ok (J_X12_days_78 v1 v3 v4 v5 v6 v7 D) (fun r => K r.1 r.2) → AW G (aRm 6 0 0) M_X12_days fr 0 0 78 [some (.ref 88), some (.int v1), none, some (.int v3), some (.int v4), some (.int v5), some (.int v6), some (.int v7), none, none] [] shp D (aQi shp K) := by
    intro v1 v3 v4 v5 v6 v7 D h
    unfold J_X12_days_78 at h
    refine Ok.lp (P := fun s => AW G (aRm 6 0 0) M_X12_days fr 0 0 78 [some (.ref 88), some (.int v1), none, some (.int v3), some (.int v4), some (.int (s.1)), some (.int (s.2.1)), some (.int (s.2.2.1)), none, none] [] shp s.2.2.2 (aQi shp K)) (fun s Kb78 hL78 hR78 h => ?_) (v5, v6, v7, D) (Ok.bind h)
    obtain ⟨v5, v6, v7, D⟩ := s
    replace h : Ok (B_X12_days_78 v1 v3 v4 v5 v6 v7 D) Kb78 := h
    unfold B_X12_days_78 at h
    have hJ_154 : ∀ (v5 : Int32) (v6 : Int32) (v7 : Int32) (v8 : Int32) (D : aD), Ok (J_X12_days_154 v1 v3 v4 v5 v6 v7 v8 D) Kb78 → AW G (aRm 6 0 0) M_X12_days fr 0 0 154 [some (.ref 88), some (.int v1), none, some (.int v3), some (.int v4), some (.int v5), some (.int v6), some (.int v7), some (.int v8), none] [] shp D (aQi shp K) := by
      intro v5 v6 v7 v8 D h
      unfold J_X12_days_154 at h
      refine aw_iload (n := 156) (i := 6) dX12_days_154 rfl rfl ?_
      refine aw_aload_n (n := 157) (i := 0) dX12_days_156 rfl rfl rfl ?_
      refine aw_getR (n := 160) (j := 54) (r := 124) hG.1 fl_RX12_133 (sF_88 hS) rfl dX12_days_157 rfl ?_
      refine aw_iload (n := 162) (i := 8) dX12_days_160 rfl rfl ?_
      obtain ⟨g_8, h⟩ := Ok.gd h
      refine aw_iaload (n := 163) hG.1 (sF_124 hS) (aIn_in g_8) dX12_days_162 rfl ?_
      refine aw_iload_n (n := 164) (i := 1) dX12_days_163 rfl rfl rfl ?_
      refine aw_icmp_ne (n := 167) (tgt := 171) dX12_days_164 rfl (by decide) (fun c => ?_) (fun c => ?_)
      · replace h := Ok.ift h c
        refine aw_iconst (n := 172) (v := 0) dX12_days_171 rfl (by decide) ?_
        refine aw_iadd (n := 173) dX12_days_172 rfl ?_
        obtain ⟨v6_9, e_v6_9, h⟩ := Ok.let_ h
        refine aw_istore (n := 175) (i := 6) (al' := [some (.ref 88), some (.int v1), none, some (.int v3), some (.int v4), some (.int v5), some (.int v6_9), some (.int v7), some (.int v8), none]) dX12_days_173 rfl e_v6_9 (by decide) rfl ?_
        obtain ⟨v7_10, e_v7_10, h⟩ := Ok.let_ h
        refine aw_iinc (n := 178) (al' := [some (.ref 88), some (.int v1), none, some (.int v3), some (.int v4), some (.int v5), some (.int v6_9), some (.int v7_10), some (.int v8), none]) dX12_days_175 rfl rfl e_v7_10 (by decide) rfl ?_
        refine aw_goto (tgt := 78) dX12_days_178 (by decide) ?_
        exact aw_le' (hL78 (v5, v6_9, v7_10, D) (Ok.dn h :)) ⟨rfl, ⟨rfl, ⟨rfl, ⟨rfl, ⟨rfl, ⟨rfl, ⟨rfl, trivial⟩⟩⟩⟩⟩⟩⟩
      · replace h := Ok.iffn h c
        refine aw_iconst (n := 168) (v := 1) dX12_days_167 rfl (by decide) ?_
        refine aw_goto (tgt := 172) dX12_days_168 (by decide) ?_
        refine aw_iadd (n := 173) dX12_days_172 rfl ?_
        obtain ⟨v6_11, e_v6_11, h⟩ := Ok.let_ h
        refine aw_istore (n := 175) (i := 6) (al' := [some (.ref 88), some (.int v1), none, some (.int v3), some (.int v4), some (.int v5), some (.int v6_11), some (.int v7), some (.int v8), none]) dX12_days_173 rfl e_v6_11 (by decide) rfl ?_
        obtain ⟨v7_12, e_v7_12, h⟩ := Ok.let_ h
        refine aw_iinc (n := 178) (al' := [some (.ref 88), some (.int v1), none, some (.int v3), some (.int v4), some (.int v5), some (.int v6_11), some (.int v7_12), some (.int v8), none]) dX12_days_175 rfl rfl e_v7_12 (by decide) rfl ?_
        refine aw_goto (tgt := 78) dX12_days_178 (by decide) ?_
        exact aw_le' (hL78 (v5, v6_11, v7_12, D) (Ok.dn h :)) ⟨rfl, ⟨rfl, ⟨rfl, ⟨rfl, ⟨rfl, ⟨rfl, ⟨rfl, trivial⟩⟩⟩⟩⟩⟩⟩
    have hJ_118 : ∀ (v5 : Int32) (v6 : Int32) (v7 : Int32) (v8 : Int32) (v9 : Int32) (D : aD), Ok (J_X12_days_118 v1 v3 v4 v5 v6 v7 v8 v9 D) Kb78 → AW G (aRm 6 0 0) M_X12_days fr 0 0 118 [some (.ref 88), some (.int v1), none, some (.int v3), some (.int v4), some (.int v5), some (.int v6), some (.int v7), some (.int v8), some (.int v9)] [] shp D (aQi shp K) := by
      intro v5 v6 v7 v8 v9 D h
      unfold J_X12_days_118 at h
      refine Ok.lp (P := fun s => AW G (aRm 6 0 0) M_X12_days fr 0 0 118 [some (.ref 88), some (.int v1), none, some (.int v3), some (.int v4), some (.int v5), some (.int v6), some (.int v7), some (.int (s.1)), some (.int (s.2.1))] [] shp s.2.2 (aQi shp K)) (fun s Kb118 hL118 hR118 h => ?_) (v8, v9, D) (Ok.bind h)
      obtain ⟨v8, v9, D⟩ := s
      replace h : Ok (B_X12_days_118 v1 v3 v4 v5 v6 v7 v8 v9 D) Kb118 := h
      unfold B_X12_days_118 at h
      refine aw_iload (n := 120) (i := 9) dX12_days_118 rfl rfl ?_
      refine aw_aload_n (n := 121) (i := 0) dX12_days_120 rfl rfl rfl ?_
      refine aw_getR (n := 124) (j := 3) (r := 91) hG.1 fl_RX12_27 (sF_88 hS) rfl dX12_days_121 rfl ?_
      refine aw_bipush (n := 126) (v := 10) dX12_days_124 rfl (by decide) ?_
      refine aw_iload (n := 128) (i := 8) dX12_days_126 rfl rfl ?_
      refine aw_iadd (n := 129) dX12_days_128 rfl ?_
      obtain ⟨g_16, h⟩ := Ok.gd h
      refine aw_iaload (n := 130) hG.1 (sF_91 hS) (aIn_in g_16) dX12_days_129 rfl ?_
      refine aw_icmp_lt (n := 133) (tgt := 154) dX12_days_130 rfl (by decide) (fun c => ?_) (fun c => ?_)
      · replace h := Ok.ift h c
        exact aw_le' (hJ_154 v5 v6 v7 v8 D (hR118 (v8, D) (Ok.dn h :))) ⟨rfl, ⟨rfl, ⟨rfl, ⟨rfl, ⟨rfl, ⟨rfl, ⟨rfl, ⟨rfl, trivial⟩⟩⟩⟩⟩⟩⟩⟩
      · replace h := Ok.iff h c
        refine aw_iload (n := 135) (i := 9) dX12_days_133 rfl rfl ?_
        refine aw_aload_n (n := 136) (i := 0) dX12_days_135 rfl rfl rfl ?_
        refine aw_getR (n := 139) (j := 3) (r := 91) hG.1 fl_RX12_27 (sF_88 hS) rfl dX12_days_136 rfl ?_
        refine aw_bipush (n := 141) (v := 10) dX12_days_139 rfl (by decide) ?_
        refine aw_iload (n := 143) (i := 8) dX12_days_141 rfl rfl ?_
        refine aw_iadd (n := 144) dX12_days_143 rfl ?_
        obtain ⟨g_17, h⟩ := Ok.gd h
        refine aw_iaload (n := 145) hG.1 (sF_91 hS) (aIn_in g_17) dX12_days_144 rfl ?_
        refine aw_isub (n := 146) dX12_days_145 rfl ?_
        obtain ⟨v9_18, e_v9_18, h⟩ := Ok.let_ h
        refine aw_istore (n := 148) (i := 9) (al' := [some (.ref 88), some (.int v1), none, some (.int v3), some (.int v4), some (.int v5), some (.int v6), some (.int v7), some (.int v8), some (.int v9_18)]) dX12_days_146 rfl e_v9_18 (by decide) rfl ?_
        obtain ⟨v8_19, e_v8_19, h⟩ := Ok.let_ h
        refine aw_iinc (n := 151) (al' := [some (.ref 88), some (.int v1), none, some (.int v3), some (.int v4), some (.int v5), some (.int v6), some (.int v7), some (.int v8_19), some (.int v9_18)]) dX12_days_148 rfl rfl e_v8_19 (by decide) rfl ?_
        refine aw_goto (tgt := 118) dX12_days_151 (by decide) ?_
        exact aw_le' (hL118 (v8_19, v9_18, D) (Ok.dn h :)) ⟨rfl, ⟨rfl, ⟨rfl, ⟨rfl, ⟨rfl, ⟨rfl, ⟨rfl, ⟨rfl, ⟨rfl, trivial⟩⟩⟩⟩⟩⟩⟩⟩⟩
    refine aw_iload (n := 80) (i := 7) dX12_days_78 rfl rfl ?_
    refine aw_iload_n (n := 81) (i := 3) dX12_days_80 rfl rfl rfl ?_
    refine aw_icmp_ge (n := 84) (tgt := 181) dX12_days_81 rfl (by decide) (fun c => ?_) (fun c => ?_)
    · replace h := Ok.ift h c
      exact aw_le' (hJ_181 v6 D (hR78 (v6, D) (Ok.dn h :))) ⟨rfl, trivial⟩
    · replace h := Ok.iff h c
      refine aw_iconst (n := 85) (v := 0) dX12_days_84 rfl (by decide) ?_
      refine aw_istore (n := 87) (i := 8) (al' := [some (.ref 88), some (.int v1), none, some (.int v3), some (.int v4), some (.int v5), some (.int v6), some (.int v7), some (.int 0), none]) dX12_days_85 rfl rfl (by decide) rfl ?_
      refine aw_iload (n := 89) (i := 4) dX12_days_87 rfl rfl ?_
      refine aw_if_le (n := 92) (tgt := 154) dX12_days_89 rfl (by decide) (fun c => ?_) (fun c => ?_)
      · replace h := Ok.ift h c
        exact aw_le' (hJ_154 v5 v6 v7 0 D h) ⟨rfl, ⟨rfl, ⟨rfl, ⟨rfl, ⟨rfl, ⟨rfl, ⟨rfl, ⟨rfl, trivial⟩⟩⟩⟩⟩⟩⟩⟩
      · replace h := Ok.iff h c
        refine aw_iload (n := 94) (i := 5) dX12_days_92 rfl rfl ?_
        refine aw_ldcwI (M := M_X12_days) (n := 97) (v := 1103515245) kc_RX12_421 dX12_days_94 rfl ?_
        refine aw_imul (n := 98) dX12_days_97 rfl ?_
        refine aw_sipush (n := 101) (v := 12345) dX12_days_98 rfl (by decide) ?_
        refine aw_iadd (n := 102) dX12_days_101 rfl ?_
        obtain ⟨v5_13, e_v5_13, h⟩ := Ok.let_ h
        refine aw_istore (n := 104) (i := 5) (al' := [some (.ref 88), some (.int v1), none, some (.int v3), some (.int v4), some (.int v5_13), some (.int v6), some (.int v7), some (.int 0), none]) dX12_days_102 rfl e_v5_13 (by decide) rfl ?_
        refine aw_iload (n := 106) (i := 5) dX12_days_104 rfl rfl ?_
        refine aw_bipush (n := 108) (v := 16) dX12_days_106 rfl (by decide) ?_
        refine aw_ishr (n := 109) dX12_days_108 rfl ?_
        refine aw_sipush (n := 112) (v := 32767) dX12_days_109 rfl (by decide) ?_
        refine aw_iand (n := 113) dX12_days_112 rfl ?_
        refine aw_iload (n := 115) (i := 4) dX12_days_113 rfl rfl ?_
        obtain ⟨g_14, h⟩ := Ok.gd h
        refine aw_irem (n := 116) dX12_days_115 rfl (aNz_ne g_14) ?_
        obtain ⟨v9_15, e_v9_15, h⟩ := Ok.let_ h
        refine aw_istore (n := 118) (i := 9) (al' := [some (.ref 88), some (.int v1), none, some (.int v3), some (.int v4), some (.int v5_13), some (.int v6), some (.int v7), some (.int 0), some (.int v9_15)]) dX12_days_116 rfl e_v9_15 (by decide) rfl ?_
        exact aw_le' (hJ_118 v5_13 v6 v7 0 v9_15 D h) ⟨rfl, ⟨rfl, ⟨rfl, ⟨rfl, ⟨rfl, ⟨rfl, ⟨rfl, ⟨rfl, ⟨rfl, trivial⟩⟩⟩⟩⟩⟩⟩⟩⟩
  have hJ_63 : ∀ (v1 : Int32) (v2 : Int32) (v3 : Int32) (D : aD), Ok (J_X12_days_63 v1 v2 v3 D) (fun r => K r.1 r.2) → AW G (aRm 6 0 0) M_X12_days fr 0 0 63 [some (.ref 88), some (.int v1), some (.int v2), some (.int v3), none, none, none, none, none, none] [] shp D (aQi shp K) := by
    intro v1 v2 v3 D h
    unfold J_X12_days_63 at h
    refine aw_aload_n (n := 64) (i := 0) dX12_days_63 rfl rfl rfl ?_
    refine aw_cVi (M := M_X12_days) (n := 67) (As := []) (rest := []) hG.1 lk_RX12_359 rfl rfl (sF_88 hS) (c_X12_allWeights hG hS (h := Ok.bi h)) (by decide) (Nat.le_of_ble_eq_true rfl) (by decide) (by decide) dX12_days_64 rfl (fun y_6 D_7 h => ?_)
    refine aw_istore (n := 69) (i := 4) (al' := [some (.ref 88), some (.int v1), some (.int v2), some (.int v3), some (.int y_6), none, none, none, none, none]) dX12_days_67 rfl rfl (by decide) rfl ?_
    refine aw_iload_n (n := 70) (i := 2) dX12_days_69 rfl rfl rfl ?_
    refine aw_istore (n := 72) (i := 5) (al' := [some (.ref 88), some (.int v1), some (.int v2), some (.int v3), some (.int y_6), some (.int v2), none, none, none, none]) dX12_days_70 rfl rfl (by decide) rfl ?_
    refine aw_iconst (n := 73) (v := 0) dX12_days_72 rfl (by decide) ?_
    refine aw_istore (n := 75) (i := 6) (al' := [some (.ref 88), some (.int v1), some (.int v2), some (.int v3), some (.int y_6), some (.int v2), some (.int 0), none, none, none]) dX12_days_73 rfl rfl (by decide) rfl ?_
    refine aw_iconst (n := 76) (v := 0) dX12_days_75 rfl (by decide) ?_
    refine aw_istore (n := 78) (i := 7) (al' := [some (.ref 88), some (.int v1), some (.int v2), some (.int v3), some (.int y_6), some (.int v2), some (.int 0), some (.int 0), none, none]) dX12_days_76 rfl rfl (by decide) rfl ?_
    exact aw_le' (hJ_78 v1 v3 y_6 v2 0 0 D_7 h) ⟨rfl, ⟨rfl, ⟨rfl, ⟨rfl, ⟨rfl, ⟨rfl, ⟨rfl, trivial⟩⟩⟩⟩⟩⟩⟩
  have hJ_38 : ∀ (v1 : Int32) (v2 : Int32) (v3 : Int32) (v4 : Int32) (D : aD), Ok (J_X12_days_38 v1 v2 v3 v4 D) (fun r => K r.1 r.2) → AW G (aRm 6 0 0) M_X12_days fr 0 0 38 [some (.ref 88), some (.int v1), some (.int v2), some (.int v3), some (.int v4), none, none, none, none, none] [] shp D (aQi shp K) := by
    intro v1 v2 v3 v4 D h
    unfold J_X12_days_38 at h
    refine Ok.lp (P := fun s => AW G (aRm 6 0 0) M_X12_days fr 0 0 38 [some (.ref 88), some (.int v1), some (.int v2), some (.int v3), some (.int (s.1)), none, none, none, none, none] [] shp s.2 (aQi shp K)) (fun s Kb38 hL38 hR38 h => ?_) (v4, D) (Ok.bind h)
    obtain ⟨v4, D⟩ := s
    replace h : Ok (B_X12_days_38 v1 v2 v3 v4 D) Kb38 := h
    unfold B_X12_days_38 at h
    refine aw_iload (n := 40) (i := 4) dX12_days_38 rfl rfl ?_
    refine aw_iconst (n := 41) (v := 5) dX12_days_40 rfl (by decide) ?_
    refine aw_icmp_ge (n := 44) (tgt := 63) dX12_days_41 rfl (by decide) (fun c => ?_) (fun c => ?_)
    · replace h := Ok.ift h c
      exact aw_le' (hJ_63 v1 v2 v3 D (hR38 D (Ok.dn h :))) ⟨rfl, ⟨rfl, ⟨rfl, ⟨rfl, trivial⟩⟩⟩⟩
    · replace h := Ok.iff h c
      refine aw_aload_n (n := 45) (i := 0) dX12_days_44 rfl rfl rfl ?_
      refine aw_getR (n := 48) (j := 54) (r := 124) hG.1 fl_RX12_133 (sF_88 hS) rfl dX12_days_45 rfl ?_
      refine aw_iload (n := 50) (i := 4) dX12_days_48 rfl rfl ?_
      refine aw_aload_n (n := 51) (i := 0) dX12_days_50 rfl rfl rfl ?_
      refine aw_iload (n := 53) (i := 4) dX12_days_51 rfl rfl ?_
      refine aw_cVi (M := M_X12_days) (n := 56) (As := [.int v4]) (rest := [.int v4, .ref 124]) hG.1 lk_RX12_356 rfl rfl (sF_88 hS) (c_X12_winnerBy hG hS (h := Ok.bi h)) (by decide) (Nat.le_of_ble_eq_true rfl) (by decide) (by decide) dX12_days_53 rfl (fun y_20 D_21 h => ?_)
      obtain ⟨g_22, h⟩ := Ok.gd h
      obtain ⟨D_23, e_D_23, h⟩ := Ok.let_ h
      refine aw_iastore (n := 57) hG.1 (sF_124 hS) (aIn_in g_22) e_D_23 dX12_days_56 rfl ?_
      obtain ⟨v4_24, e_v4_24, h⟩ := Ok.let_ h
      refine aw_iinc (n := 60) (al' := [some (.ref 88), some (.int v1), some (.int v2), some (.int v3), some (.int v4_24), none, none, none, none, none]) dX12_days_57 rfl rfl e_v4_24 (by decide) rfl ?_
      refine aw_goto (tgt := 38) dX12_days_60 (by decide) ?_
      exact aw_le' (hL38 (v4_24, D_23) (Ok.dn h :)) ⟨rfl, ⟨rfl, ⟨rfl, ⟨rfl, ⟨rfl, trivial⟩⟩⟩⟩⟩
  refine aw_aload_n (n := 1) (i := 0) dX12_days_0 rfl rfl rfl ?_
  refine aw_iconst (n := 2) (v := 0) dX12_days_1 rfl (by decide) ?_
  obtain ⟨D_1, e_D_1, h⟩ := Ok.let_ h
  refine aw_putI (n := 5) (j := 2) hG.1 fl_RX12_157 (sF_88 hS) rfl e_D_1 dX12_days_2 rfl ?_
  refine aw_aload_n (n := 6) (i := 0) dX12_days_5 rfl rfl rfl ?_
  refine aw_iload_n (n := 7) (i := 1) dX12_days_6 rfl rfl rfl ?_
  refine aw_cVi (M := M_X12_days) (n := 10) (As := [.int v1]) (rest := []) hG.1 lk_RX12_343 rfl rfl (sF_88 hS) (c_X12_isGarden hG hS (h := Ok.bi h)) (by decide) (Nat.le_of_ble_eq_true rfl) (by decide) (by decide) dX12_days_7 rfl (fun y_2 D_3 h => ?_)
  refine aw_if_ne (n := 13) (tgt := 19) dX12_days_10 rfl (by decide) (fun c => ?_) (fun c => ?_)
  · replace h := Ok.ift h c
    refine aw_iload_n (n := 20) (i := 3) dX12_days_19 rfl rfl rfl ?_
    refine aw_iconst (n := 21) (v := 0) dX12_days_20 rfl (by decide) ?_
    refine aw_bipush (n := 23) (v := 100) dX12_days_21 rfl (by decide) ?_
    refine aw_cSi (M := M_X12_days) (n := 26) (As := [.int v3, .int 0, .int 100]) (rest := []) lk_RX12_160 rfl rfl (c_X12_isIn hG hS (h := Ok.bi h)) (by decide) (Nat.le_of_ble_eq_true rfl) (by decide) (by decide) dX12_days_23 rfl (fun y_4 D_5 h => ?_)
    refine aw_if_ne (n := 29) (tgt := 35) dX12_days_26 rfl (by decide) (fun c => ?_) (fun c => ?_)
    · replace h := Ok.ift h c
      refine aw_iconst (n := 36) (v := 0) dX12_days_35 rfl (by decide) ?_
      refine aw_istore (n := 38) (i := 4) (al' := [some (.ref 88), some (.int v1), some (.int v2), some (.int v3), some (.int 0), none, none, none, none, none]) dX12_days_36 rfl rfl (by decide) rfl ?_
      exact aw_le' (hJ_38 v1 v2 v3 0 D_5 h) ⟨rfl, ⟨rfl, ⟨rfl, ⟨rfl, ⟨rfl, trivial⟩⟩⟩⟩⟩
    · replace h := Ok.iffn h c
      refine aw_aload_n (n := 30) (i := 0) dX12_days_29 rfl rfl rfl ?_
      refine aw_iconst (n := 31) (v := 2) dX12_days_30 rfl (by decide) ?_
      refine aw_cVi (M := M_X12_days) (n := 34) (As := [.int 2]) (rest := []) hG.1 lk_RX12_290 rfl rfl (sF_88 hS) (c_X12_fail hG hS (h := Ok.bi h)) (by decide) (Nat.le_of_ble_eq_true rfl) (by decide) (by decide) dX12_days_31 rfl (fun y_25 D_26 h => ?_)
      exact aw_iret rfl (by decide) (by decide) dX12_days_34 ⟨_, rfl, rfl, (Ok.dn h :)⟩
  · replace h := Ok.iffn h c
    refine aw_aload_n (n := 14) (i := 0) dX12_days_13 rfl rfl rfl ?_
    refine aw_iconst (n := 15) (v := 1) dX12_days_14 rfl (by decide) ?_
    refine aw_cVi (M := M_X12_days) (n := 18) (As := [.int 1]) (rest := []) hG.1 lk_RX12_290 rfl rfl (sF_88 hS) (c_X12_fail hG hS (h := Ok.bi h)) (by decide) (Nat.le_of_ble_eq_true rfl) (by decide) (by decide) dX12_days_15 rfl (fun y_27 D_28 h => ?_)
    exact aw_iret rfl (by decide) (by decide) dX12_days_18 ⟨_, rfl, rfl, (Ok.dn h :)⟩
theorem dX12_image_0 : decode cX12_image 0 = .ok (.aload_n 0, 1) := by decide +kernel
theorem dX12_image_1 : decode cX12_image 1 = .ok (.iconst 0, 1) := by decide +kernel
theorem dX12_image_2 : decode cX12_image 2 = .ok (.putfield 157, 3) := by decide +kernel
theorem dX12_image_5 : decode cX12_image 5 = .ok (.aload_n 0, 1) := by decide +kernel
theorem dX12_image_6 : decode cX12_image 6 = .ok (.iconst 1, 1) := by decide +kernel
theorem dX12_image_7 : decode cX12_image 7 = .ok (.putfield 312, 3) := by decide +kernel
theorem dX12_image_10 : decode cX12_image 10 = .ok (.aload_n 0, 1) := by decide +kernel
theorem dX12_image_11 : decode cX12_image 11 = .ok (.aload_n 0, 1) := by decide +kernel
theorem dX12_image_12 : decode cX12_image 12 = .ok (.getfield 82, 3) := by decide +kernel
theorem dX12_image_15 : decode cX12_image 15 = .ok (.putfield 422, 3) := by decide +kernel
theorem dX12_image_18 : decode cX12_image 18 = .ok (.aload_n 0, 1) := by decide +kernel
theorem dX12_image_19 : decode cX12_image 19 = .ok (.aload_n 0, 1) := by decide +kernel
theorem dX12_image_20 : decode cX12_image 20 = .ok (.getfield 306, 3) := by decide +kernel
theorem dX12_image_23 : decode cX12_image 23 = .ok (.putfield 425, 3) := by decide +kernel
theorem dX12_image_26 : decode cX12_image 26 = .ok (.aload_n 0, 1) := by decide +kernel
theorem dX12_image_27 : decode cX12_image 27 = .ok (.aload_n 0, 1) := by decide +kernel
theorem dX12_image_28 : decode cX12_image 28 = .ok (.getfield 309, 3) := by decide +kernel
theorem dX12_image_31 : decode cX12_image 31 = .ok (.putfield 428, 3) := by decide +kernel
theorem dX12_image_34 : decode cX12_image 34 = .ok (.aload_n 0, 1) := by decide +kernel
theorem dX12_image_35 : decode cX12_image 35 = .ok (.getfield 136, 3) := by decide +kernel
theorem dX12_image_38 : decode cX12_image 38 = .ok (.aload_n 0, 1) := by decide +kernel
theorem dX12_image_39 : decode cX12_image 39 = .ok (.getfield 76, 3) := by decide +kernel
theorem dX12_image_42 : decode cX12_image 42 = .ok (.invokestatic 383, 3) := by decide +kernel
theorem dX12_image_45 : decode cX12_image 45 = .ok (.aload_n 0, 1) := by decide +kernel
theorem dX12_image_46 : decode cX12_image 46 = .ok (.getfield 139, 3) := by decide +kernel
theorem dX12_image_49 : decode cX12_image 49 = .ok (.aload_n 0, 1) := by decide +kernel
theorem dX12_image_50 : decode cX12_image 50 = .ok (.getfield 79, 3) := by decide +kernel
theorem dX12_image_53 : decode cX12_image 53 = .ok (.invokestatic 383, 3) := by decide +kernel
theorem dX12_image_56 : decode cX12_image 56 = .ok (.aload_n 0, 1) := by decide +kernel
theorem dX12_image_57 : decode cX12_image 57 = .ok (.getfield 142, 3) := by decide +kernel
theorem dX12_image_60 : decode cX12_image 60 = .ok (.aload_n 0, 1) := by decide +kernel
theorem dX12_image_61 : decode cX12_image 61 = .ok (.getfield 115, 3) := by decide +kernel
theorem dX12_image_64 : decode cX12_image 64 = .ok (.invokestatic 383, 3) := by decide +kernel
theorem dX12_image_67 : decode cX12_image 67 = .ok (.aload_n 0, 1) := by decide +kernel
theorem dX12_image_68 : decode cX12_image 68 = .ok (.getfield 145, 3) := by decide +kernel
theorem dX12_image_71 : decode cX12_image 71 = .ok (.aload_n 0, 1) := by decide +kernel
theorem dX12_image_72 : decode cX12_image 72 = .ok (.getfield 118, 3) := by decide +kernel
theorem dX12_image_75 : decode cX12_image 75 = .ok (.invokestatic 383, 3) := by decide +kernel
theorem dX12_image_78 : decode cX12_image 78 = .ok (.aload_n 0, 1) := by decide +kernel
theorem dX12_image_79 : decode cX12_image 79 = .ok (.getfield 148, 3) := by decide +kernel
theorem dX12_image_82 : decode cX12_image 82 = .ok (.aload_n 0, 1) := by decide +kernel
theorem dX12_image_83 : decode cX12_image 83 = .ok (.getfield 121, 3) := by decide +kernel
theorem dX12_image_86 : decode cX12_image 86 = .ok (.invokestatic 383, 3) := by decide +kernel
theorem dX12_image_89 : decode cX12_image 89 = .ok (.aload_n 0, 1) := by decide +kernel
theorem dX12_image_90 : decode cX12_image 90 = .ok (.getfield 151, 3) := by decide +kernel
theorem dX12_image_93 : decode cX12_image 93 = .ok (.aload_n 0, 1) := by decide +kernel
theorem dX12_image_94 : decode cX12_image 94 = .ok (.getfield 124, 3) := by decide +kernel
theorem dX12_image_97 : decode cX12_image 97 = .ok (.invokestatic 383, 3) := by decide +kernel
theorem dX12_image_100 : decode cX12_image 100 = .ok (.aload_n 0, 1) := by decide +kernel
theorem dX12_image_101 : decode cX12_image 101 = .ok (.getfield 154, 3) := by decide +kernel
theorem dX12_image_104 : decode cX12_image 104 = .ok (.aload_n 0, 1) := by decide +kernel
theorem dX12_image_105 : decode cX12_image 105 = .ok (.getfield 66, 3) := by decide +kernel
theorem dX12_image_108 : decode cX12_image 108 = .ok (.invokestatic 383, 3) := by decide +kernel
theorem dX12_image_111 : decode cX12_image 111 = .ok (.return_, 1) := by decide +kernel
def f_X12_image (D : aD) : Option (aD) :=
  aLet (pI D 88 2 0) (fun D_1 => aLet (pI D_1 88 55 1) (fun D_2 => aLet (pI D_2 88 56 (gI D_2 88 31)) (fun D_3 => aLet (pI D_3 88 57 (gI D_3 88 32)) (fun D_4 => aLet (pI D_4 88 58 (gI D_4 88 33)) (fun D_5 => (f_X12_be 125 13 106 13 D_5).bind (fun D_6 => (f_X12_be 126 5 107 5 D_6).bind (fun D_7 => (f_X12_be 127 12 118 12 D_7).bind (fun D_8 => (f_X12_be 128 12 119 12 D_8).bind (fun D_9 => (f_X12_be 129 12 120 12 D_9).bind (fun D_10 => (f_X12_be 130 12 121 12 D_10).bind (fun D_11 => (f_X12_be 131 3 104 3 D_11).bind (fun D_12 => some D_12))))))))))))
set_option maxRecDepth 100000 in
set_option maxHeartbeats 800000 in
theorem c_X12_image {G : aG} (hG : gOK G) {shp : List aSh} (hS : aShp shp) {fr : Option Nat} {D : aD} {K : aD → Prop} (h : Ok (f_X12_image D) K) : AC G (aRm 2 0 0) M_X12_image [.ref 88] fr shp D (aQv shp K) := by
  unfold f_X12_image at h
  refine AC.of (al := [some (.ref 88)]) (r := 0) (by decide) (Nat.le_of_ble_eq_true rfl) rfl ?_
  refine aw_aload_n (n := 1) (i := 0) dX12_image_0 rfl rfl rfl ?_
  refine aw_iconst (n := 2) (v := 0) dX12_image_1 rfl (by decide) ?_
  obtain ⟨D_1, e_D_1, h⟩ := Ok.let_ h
  refine aw_putI (n := 5) (j := 2) hG.1 fl_RX12_157 (sF_88 hS) rfl e_D_1 dX12_image_2 rfl ?_
  refine aw_aload_n (n := 6) (i := 0) dX12_image_5 rfl rfl rfl ?_
  refine aw_iconst (n := 7) (v := 1) dX12_image_6 rfl (by decide) ?_
  obtain ⟨D_2, e_D_2, h⟩ := Ok.let_ h
  refine aw_putZ (n := 10) (j := 55) hG.1 fl_RX12_312 (by decide) (sF_88 hS) rfl e_D_2 dX12_image_7 rfl ?_
  refine aw_aload_n (n := 11) (i := 0) dX12_image_10 rfl rfl rfl ?_
  refine aw_aload_n (n := 12) (i := 0) dX12_image_11 rfl rfl rfl ?_
  refine aw_getI (n := 15) (j := 31) hG.1 fl_RX12_82 (sF_88 hS) rfl dX12_image_12 rfl ?_
  obtain ⟨D_3, e_D_3, h⟩ := Ok.let_ h
  refine aw_putI (n := 18) (j := 56) hG.1 fl_RX12_422 (sF_88 hS) rfl e_D_3 dX12_image_15 rfl ?_
  refine aw_aload_n (n := 19) (i := 0) dX12_image_18 rfl rfl rfl ?_
  refine aw_aload_n (n := 20) (i := 0) dX12_image_19 rfl rfl rfl ?_
  refine aw_getI (n := 23) (j := 32) hG.1 fl_RX12_306 (sF_88 hS) rfl dX12_image_20 rfl ?_
  obtain ⟨D_4, e_D_4, h⟩ := Ok.let_ h
  refine aw_putI (n := 26) (j := 57) hG.1 fl_RX12_425 (sF_88 hS) rfl e_D_4 dX12_image_23 rfl ?_
  refine aw_aload_n (n := 27) (i := 0) dX12_image_26 rfl rfl rfl ?_
  refine aw_aload_n (n := 28) (i := 0) dX12_image_27 rfl rfl rfl ?_
  refine aw_getI (n := 31) (j := 33) hG.1 fl_RX12_309 (sF_88 hS) rfl dX12_image_28 rfl ?_
  obtain ⟨D_5, e_D_5, h⟩ := Ok.let_ h
  refine aw_putI (n := 34) (j := 58) hG.1 fl_RX12_428 (sF_88 hS) rfl e_D_5 dX12_image_31 rfl ?_
  refine aw_aload_n (n := 35) (i := 0) dX12_image_34 rfl rfl rfl ?_
  refine aw_getR (n := 38) (j := 59) (r := 125) hG.1 fl_RX12_136 (sF_88 hS) rfl dX12_image_35 rfl ?_
  refine aw_aload_n (n := 39) (i := 0) dX12_image_38 rfl rfl rfl ?_
  refine aw_getR (n := 42) (j := 28) (r := 106) hG.1 fl_RX12_76 (sF_88 hS) rfl dX12_image_39 rfl ?_
  refine aw_cSv (M := M_X12_image) (n := 45) (As := [.ref 125, .ref 106]) (rest := []) lk_RX12_383 rfl rfl (c_X12_be hG hS (h := Ok.bind h) (sF_125 hS) (sF_106 hS)) (by decide) (Nat.le_of_ble_eq_true rfl) (by decide) (by decide) dX12_image_42 rfl (fun D_6 h => ?_)
  refine aw_aload_n (n := 46) (i := 0) dX12_image_45 rfl rfl rfl ?_
  refine aw_getR (n := 49) (j := 60) (r := 126) hG.1 fl_RX12_139 (sF_88 hS) rfl dX12_image_46 rfl ?_
  refine aw_aload_n (n := 50) (i := 0) dX12_image_49 rfl rfl rfl ?_
  refine aw_getR (n := 53) (j := 29) (r := 107) hG.1 fl_RX12_79 (sF_88 hS) rfl dX12_image_50 rfl ?_
  refine aw_cSv (M := M_X12_image) (n := 56) (As := [.ref 126, .ref 107]) (rest := []) lk_RX12_383 rfl rfl (c_X12_be hG hS (h := Ok.bind h) (sF_126 hS) (sF_107 hS)) (by decide) (Nat.le_of_ble_eq_true rfl) (by decide) (by decide) dX12_image_53 rfl (fun D_7 h => ?_)
  refine aw_aload_n (n := 57) (i := 0) dX12_image_56 rfl rfl rfl ?_
  refine aw_getR (n := 60) (j := 61) (r := 127) hG.1 fl_RX12_142 (sF_88 hS) rfl dX12_image_57 rfl ?_
  refine aw_aload_n (n := 61) (i := 0) dX12_image_60 rfl rfl rfl ?_
  refine aw_getR (n := 64) (j := 47) (r := 118) hG.1 fl_RX12_115 (sF_88 hS) rfl dX12_image_61 rfl ?_
  refine aw_cSv (M := M_X12_image) (n := 67) (As := [.ref 127, .ref 118]) (rest := []) lk_RX12_383 rfl rfl (c_X12_be hG hS (h := Ok.bind h) (sF_127 hS) (sF_118 hS)) (by decide) (Nat.le_of_ble_eq_true rfl) (by decide) (by decide) dX12_image_64 rfl (fun D_8 h => ?_)
  refine aw_aload_n (n := 68) (i := 0) dX12_image_67 rfl rfl rfl ?_
  refine aw_getR (n := 71) (j := 62) (r := 128) hG.1 fl_RX12_145 (sF_88 hS) rfl dX12_image_68 rfl ?_
  refine aw_aload_n (n := 72) (i := 0) dX12_image_71 rfl rfl rfl ?_
  refine aw_getR (n := 75) (j := 48) (r := 119) hG.1 fl_RX12_118 (sF_88 hS) rfl dX12_image_72 rfl ?_
  refine aw_cSv (M := M_X12_image) (n := 78) (As := [.ref 128, .ref 119]) (rest := []) lk_RX12_383 rfl rfl (c_X12_be hG hS (h := Ok.bind h) (sF_128 hS) (sF_119 hS)) (by decide) (Nat.le_of_ble_eq_true rfl) (by decide) (by decide) dX12_image_75 rfl (fun D_9 h => ?_)
  refine aw_aload_n (n := 79) (i := 0) dX12_image_78 rfl rfl rfl ?_
  refine aw_getR (n := 82) (j := 63) (r := 129) hG.1 fl_RX12_148 (sF_88 hS) rfl dX12_image_79 rfl ?_
  refine aw_aload_n (n := 83) (i := 0) dX12_image_82 rfl rfl rfl ?_
  refine aw_getR (n := 86) (j := 49) (r := 120) hG.1 fl_RX12_121 (sF_88 hS) rfl dX12_image_83 rfl ?_
  refine aw_cSv (M := M_X12_image) (n := 89) (As := [.ref 129, .ref 120]) (rest := []) lk_RX12_383 rfl rfl (c_X12_be hG hS (h := Ok.bind h) (sF_129 hS) (sF_120 hS)) (by decide) (Nat.le_of_ble_eq_true rfl) (by decide) (by decide) dX12_image_86 rfl (fun D_10 h => ?_)
  refine aw_aload_n (n := 90) (i := 0) dX12_image_89 rfl rfl rfl ?_
  refine aw_getR (n := 93) (j := 64) (r := 130) hG.1 fl_RX12_151 (sF_88 hS) rfl dX12_image_90 rfl ?_
  refine aw_aload_n (n := 94) (i := 0) dX12_image_93 rfl rfl rfl ?_
  refine aw_getR (n := 97) (j := 50) (r := 121) hG.1 fl_RX12_124 (sF_88 hS) rfl dX12_image_94 rfl ?_
  refine aw_cSv (M := M_X12_image) (n := 100) (As := [.ref 130, .ref 121]) (rest := []) lk_RX12_383 rfl rfl (c_X12_be hG hS (h := Ok.bind h) (sF_130 hS) (sF_121 hS)) (by decide) (Nat.le_of_ble_eq_true rfl) (by decide) (by decide) dX12_image_97 rfl (fun D_11 h => ?_)
  refine aw_aload_n (n := 101) (i := 0) dX12_image_100 rfl rfl rfl ?_
  refine aw_getR (n := 104) (j := 65) (r := 131) hG.1 fl_RX12_154 (sF_88 hS) rfl dX12_image_101 rfl ?_
  refine aw_aload_n (n := 105) (i := 0) dX12_image_104 rfl rfl rfl ?_
  refine aw_getR (n := 108) (j := 16) (r := 104) hG.1 fl_RX12_66 (sF_88 hS) rfl dX12_image_105 rfl ?_
  refine aw_cSv (M := M_X12_image) (n := 111) (As := [.ref 131, .ref 104]) (rest := []) lk_RX12_383 rfl rfl (c_X12_be hG hS (h := Ok.bind h) (sF_131 hS) (sF_104 hS)) (by decide) (Nat.le_of_ble_eq_true rfl) (by decide) (by decide) dX12_image_108 rfl (fun D_12 h => ?_)
  exact aw_vret rfl (by decide) (by decide) dX12_image_111 ⟨rfl, rfl, (Ok.dn h :)⟩
theorem dX12_restore_0 : decode cX12_restore 0 = .ok (.aload_n 0, 1) := by decide +kernel
theorem dX12_restore_1 : decode cX12_restore 1 = .ok (.iconst 0, 1) := by decide +kernel
theorem dX12_restore_2 : decode cX12_restore 2 = .ok (.putfield 157, 3) := by decide +kernel
theorem dX12_restore_5 : decode cX12_restore 5 = .ok (.aload_n 0, 1) := by decide +kernel
theorem dX12_restore_6 : decode cX12_restore 6 = .ok (.getfield 312, 3) := by decide +kernel
theorem dX12_restore_9 : decode cX12_restore 9 = .ok (.ifCond .ne 5, 3) := by decide +kernel
theorem dX12_restore_12 : decode cX12_restore 12 = .ok (.iconst 0, 1) := by decide +kernel
theorem dX12_restore_13 : decode cX12_restore 13 = .ok (.ireturn, 1) := by decide +kernel
theorem dX12_restore_14 : decode cX12_restore 14 = .ok (.aload_n 0, 1) := by decide +kernel
theorem dX12_restore_15 : decode cX12_restore 15 = .ok (.aload_n 0, 1) := by decide +kernel
theorem dX12_restore_16 : decode cX12_restore 16 = .ok (.getfield 422, 3) := by decide +kernel
theorem dX12_restore_19 : decode cX12_restore 19 = .ok (.putfield 82, 3) := by decide +kernel
theorem dX12_restore_22 : decode cX12_restore 22 = .ok (.aload_n 0, 1) := by decide +kernel
theorem dX12_restore_23 : decode cX12_restore 23 = .ok (.aload_n 0, 1) := by decide +kernel
theorem dX12_restore_24 : decode cX12_restore 24 = .ok (.getfield 425, 3) := by decide +kernel
theorem dX12_restore_27 : decode cX12_restore 27 = .ok (.putfield 306, 3) := by decide +kernel
theorem dX12_restore_30 : decode cX12_restore 30 = .ok (.aload_n 0, 1) := by decide +kernel
theorem dX12_restore_31 : decode cX12_restore 31 = .ok (.aload_n 0, 1) := by decide +kernel
theorem dX12_restore_32 : decode cX12_restore 32 = .ok (.getfield 428, 3) := by decide +kernel
theorem dX12_restore_35 : decode cX12_restore 35 = .ok (.putfield 309, 3) := by decide +kernel
theorem dX12_restore_38 : decode cX12_restore 38 = .ok (.aload_n 0, 1) := by decide +kernel
theorem dX12_restore_39 : decode cX12_restore 39 = .ok (.getfield 76, 3) := by decide +kernel
theorem dX12_restore_42 : decode cX12_restore 42 = .ok (.aload_n 0, 1) := by decide +kernel
theorem dX12_restore_43 : decode cX12_restore 43 = .ok (.getfield 136, 3) := by decide +kernel
theorem dX12_restore_46 : decode cX12_restore 46 = .ok (.invokestatic 383, 3) := by decide +kernel
theorem dX12_restore_49 : decode cX12_restore 49 = .ok (.aload_n 0, 1) := by decide +kernel
theorem dX12_restore_50 : decode cX12_restore 50 = .ok (.getfield 79, 3) := by decide +kernel
theorem dX12_restore_53 : decode cX12_restore 53 = .ok (.aload_n 0, 1) := by decide +kernel
theorem dX12_restore_54 : decode cX12_restore 54 = .ok (.getfield 139, 3) := by decide +kernel
theorem dX12_restore_57 : decode cX12_restore 57 = .ok (.invokestatic 383, 3) := by decide +kernel
theorem dX12_restore_60 : decode cX12_restore 60 = .ok (.aload_n 0, 1) := by decide +kernel
theorem dX12_restore_61 : decode cX12_restore 61 = .ok (.getfield 115, 3) := by decide +kernel
theorem dX12_restore_64 : decode cX12_restore 64 = .ok (.aload_n 0, 1) := by decide +kernel
theorem dX12_restore_65 : decode cX12_restore 65 = .ok (.getfield 142, 3) := by decide +kernel
theorem dX12_restore_68 : decode cX12_restore 68 = .ok (.invokestatic 383, 3) := by decide +kernel
theorem dX12_restore_71 : decode cX12_restore 71 = .ok (.aload_n 0, 1) := by decide +kernel
theorem dX12_restore_72 : decode cX12_restore 72 = .ok (.getfield 118, 3) := by decide +kernel
theorem dX12_restore_75 : decode cX12_restore 75 = .ok (.aload_n 0, 1) := by decide +kernel
theorem dX12_restore_76 : decode cX12_restore 76 = .ok (.getfield 145, 3) := by decide +kernel
theorem dX12_restore_79 : decode cX12_restore 79 = .ok (.invokestatic 383, 3) := by decide +kernel
theorem dX12_restore_82 : decode cX12_restore 82 = .ok (.aload_n 0, 1) := by decide +kernel
theorem dX12_restore_83 : decode cX12_restore 83 = .ok (.getfield 121, 3) := by decide +kernel
theorem dX12_restore_86 : decode cX12_restore 86 = .ok (.aload_n 0, 1) := by decide +kernel
theorem dX12_restore_87 : decode cX12_restore 87 = .ok (.getfield 148, 3) := by decide +kernel
theorem dX12_restore_90 : decode cX12_restore 90 = .ok (.invokestatic 383, 3) := by decide +kernel
theorem dX12_restore_93 : decode cX12_restore 93 = .ok (.aload_n 0, 1) := by decide +kernel
theorem dX12_restore_94 : decode cX12_restore 94 = .ok (.getfield 124, 3) := by decide +kernel
theorem dX12_restore_97 : decode cX12_restore 97 = .ok (.aload_n 0, 1) := by decide +kernel
theorem dX12_restore_98 : decode cX12_restore 98 = .ok (.getfield 151, 3) := by decide +kernel
theorem dX12_restore_101 : decode cX12_restore 101 = .ok (.invokestatic 383, 3) := by decide +kernel
theorem dX12_restore_104 : decode cX12_restore 104 = .ok (.aload_n 0, 1) := by decide +kernel
theorem dX12_restore_105 : decode cX12_restore 105 = .ok (.getfield 66, 3) := by decide +kernel
theorem dX12_restore_108 : decode cX12_restore 108 = .ok (.aload_n 0, 1) := by decide +kernel
theorem dX12_restore_109 : decode cX12_restore 109 = .ok (.getfield 154, 3) := by decide +kernel
theorem dX12_restore_112 : decode cX12_restore 112 = .ok (.invokestatic 383, 3) := by decide +kernel
theorem dX12_restore_115 : decode cX12_restore 115 = .ok (.iconst 1, 1) := by decide +kernel
theorem dX12_restore_116 : decode cX12_restore 116 = .ok (.ireturn, 1) := by decide +kernel
def f_X12_restore (D : aD) : Option (Int32 × aD) :=
  aLet (pI D 88 2 0) (fun D_1 => if gI D_1 88 55 ≠ 0 then (aLet (pI D_1 88 31 (gI D_1 88 56)) (fun D_2 => aLet (pI D_2 88 32 (gI D_2 88 57)) (fun D_3 => aLet (pI D_3 88 33 (gI D_3 88 58)) (fun D_4 => (f_X12_be 106 13 125 13 D_4).bind (fun D_5 => (f_X12_be 107 5 126 5 D_5).bind (fun D_6 => (f_X12_be 118 12 127 12 D_6).bind (fun D_7 => (f_X12_be 119 12 128 12 D_7).bind (fun D_8 => (f_X12_be 120 12 129 12 D_8).bind (fun D_9 => (f_X12_be 121 12 130 12 D_9).bind (fun D_10 => (f_X12_be 104 3 131 3 D_10).bind (fun D_11 => some (1, D_11)))))))))))) else (some (0, D_1)))
set_option maxRecDepth 100000 in
set_option maxHeartbeats 800000 in
theorem c_X12_restore {G : aG} (hG : gOK G) {shp : List aSh} (hS : aShp shp) {fr : Option Nat} {D : aD} {K : Int32 → aD → Prop} (h : Ok2 (f_X12_restore D) K) : AC G (aRm 2 0 0) M_X12_restore [.ref 88] fr shp D (aQi shp K) := by
  replace h := Ok2.ok h
  unfold f_X12_restore at h
  refine AC.of (al := [some (.ref 88)]) (r := 0) (by decide) (Nat.le_of_ble_eq_true rfl) rfl ?_
  refine aw_aload_n (n := 1) (i := 0) dX12_restore_0 rfl rfl rfl ?_
  refine aw_iconst (n := 2) (v := 0) dX12_restore_1 rfl (by decide) ?_
  obtain ⟨D_1, e_D_1, h⟩ := Ok.let_ h
  refine aw_putI (n := 5) (j := 2) hG.1 fl_RX12_157 (sF_88 hS) rfl e_D_1 dX12_restore_2 rfl ?_
  refine aw_aload_n (n := 6) (i := 0) dX12_restore_5 rfl rfl rfl ?_
  refine aw_getI (n := 9) (j := 55) hG.1 fl_RX12_312 (sF_88 hS) rfl dX12_restore_6 rfl ?_
  refine aw_if_ne (n := 12) (tgt := 14) dX12_restore_9 rfl (by decide) (fun c => ?_) (fun c => ?_)
  · replace h := Ok.ift h c
    refine aw_aload_n (n := 15) (i := 0) dX12_restore_14 rfl rfl rfl ?_
    refine aw_aload_n (n := 16) (i := 0) dX12_restore_15 rfl rfl rfl ?_
    refine aw_getI (n := 19) (j := 56) hG.1 fl_RX12_422 (sF_88 hS) rfl dX12_restore_16 rfl ?_
    obtain ⟨D_2, e_D_2, h⟩ := Ok.let_ h
    refine aw_putI (n := 22) (j := 31) hG.1 fl_RX12_82 (sF_88 hS) rfl e_D_2 dX12_restore_19 rfl ?_
    refine aw_aload_n (n := 23) (i := 0) dX12_restore_22 rfl rfl rfl ?_
    refine aw_aload_n (n := 24) (i := 0) dX12_restore_23 rfl rfl rfl ?_
    refine aw_getI (n := 27) (j := 57) hG.1 fl_RX12_425 (sF_88 hS) rfl dX12_restore_24 rfl ?_
    obtain ⟨D_3, e_D_3, h⟩ := Ok.let_ h
    refine aw_putI (n := 30) (j := 32) hG.1 fl_RX12_306 (sF_88 hS) rfl e_D_3 dX12_restore_27 rfl ?_
    refine aw_aload_n (n := 31) (i := 0) dX12_restore_30 rfl rfl rfl ?_
    refine aw_aload_n (n := 32) (i := 0) dX12_restore_31 rfl rfl rfl ?_
    refine aw_getI (n := 35) (j := 58) hG.1 fl_RX12_428 (sF_88 hS) rfl dX12_restore_32 rfl ?_
    obtain ⟨D_4, e_D_4, h⟩ := Ok.let_ h
    refine aw_putI (n := 38) (j := 33) hG.1 fl_RX12_309 (sF_88 hS) rfl e_D_4 dX12_restore_35 rfl ?_
    refine aw_aload_n (n := 39) (i := 0) dX12_restore_38 rfl rfl rfl ?_
    refine aw_getR (n := 42) (j := 28) (r := 106) hG.1 fl_RX12_76 (sF_88 hS) rfl dX12_restore_39 rfl ?_
    refine aw_aload_n (n := 43) (i := 0) dX12_restore_42 rfl rfl rfl ?_
    refine aw_getR (n := 46) (j := 59) (r := 125) hG.1 fl_RX12_136 (sF_88 hS) rfl dX12_restore_43 rfl ?_
    refine aw_cSv (M := M_X12_restore) (n := 49) (As := [.ref 106, .ref 125]) (rest := []) lk_RX12_383 rfl rfl (c_X12_be hG hS (h := Ok.bind h) (sF_106 hS) (sF_125 hS)) (by decide) (Nat.le_of_ble_eq_true rfl) (by decide) (by decide) dX12_restore_46 rfl (fun D_5 h => ?_)
    refine aw_aload_n (n := 50) (i := 0) dX12_restore_49 rfl rfl rfl ?_
    refine aw_getR (n := 53) (j := 29) (r := 107) hG.1 fl_RX12_79 (sF_88 hS) rfl dX12_restore_50 rfl ?_
    refine aw_aload_n (n := 54) (i := 0) dX12_restore_53 rfl rfl rfl ?_
    refine aw_getR (n := 57) (j := 60) (r := 126) hG.1 fl_RX12_139 (sF_88 hS) rfl dX12_restore_54 rfl ?_
    refine aw_cSv (M := M_X12_restore) (n := 60) (As := [.ref 107, .ref 126]) (rest := []) lk_RX12_383 rfl rfl (c_X12_be hG hS (h := Ok.bind h) (sF_107 hS) (sF_126 hS)) (by decide) (Nat.le_of_ble_eq_true rfl) (by decide) (by decide) dX12_restore_57 rfl (fun D_6 h => ?_)
    refine aw_aload_n (n := 61) (i := 0) dX12_restore_60 rfl rfl rfl ?_
    refine aw_getR (n := 64) (j := 47) (r := 118) hG.1 fl_RX12_115 (sF_88 hS) rfl dX12_restore_61 rfl ?_
    refine aw_aload_n (n := 65) (i := 0) dX12_restore_64 rfl rfl rfl ?_
    refine aw_getR (n := 68) (j := 61) (r := 127) hG.1 fl_RX12_142 (sF_88 hS) rfl dX12_restore_65 rfl ?_
    refine aw_cSv (M := M_X12_restore) (n := 71) (As := [.ref 118, .ref 127]) (rest := []) lk_RX12_383 rfl rfl (c_X12_be hG hS (h := Ok.bind h) (sF_118 hS) (sF_127 hS)) (by decide) (Nat.le_of_ble_eq_true rfl) (by decide) (by decide) dX12_restore_68 rfl (fun D_7 h => ?_)
    refine aw_aload_n (n := 72) (i := 0) dX12_restore_71 rfl rfl rfl ?_
    refine aw_getR (n := 75) (j := 48) (r := 119) hG.1 fl_RX12_118 (sF_88 hS) rfl dX12_restore_72 rfl ?_
    refine aw_aload_n (n := 76) (i := 0) dX12_restore_75 rfl rfl rfl ?_
    refine aw_getR (n := 79) (j := 62) (r := 128) hG.1 fl_RX12_145 (sF_88 hS) rfl dX12_restore_76 rfl ?_
    refine aw_cSv (M := M_X12_restore) (n := 82) (As := [.ref 119, .ref 128]) (rest := []) lk_RX12_383 rfl rfl (c_X12_be hG hS (h := Ok.bind h) (sF_119 hS) (sF_128 hS)) (by decide) (Nat.le_of_ble_eq_true rfl) (by decide) (by decide) dX12_restore_79 rfl (fun D_8 h => ?_)
    refine aw_aload_n (n := 83) (i := 0) dX12_restore_82 rfl rfl rfl ?_
    refine aw_getR (n := 86) (j := 49) (r := 120) hG.1 fl_RX12_121 (sF_88 hS) rfl dX12_restore_83 rfl ?_
    refine aw_aload_n (n := 87) (i := 0) dX12_restore_86 rfl rfl rfl ?_
    refine aw_getR (n := 90) (j := 63) (r := 129) hG.1 fl_RX12_148 (sF_88 hS) rfl dX12_restore_87 rfl ?_
    refine aw_cSv (M := M_X12_restore) (n := 93) (As := [.ref 120, .ref 129]) (rest := []) lk_RX12_383 rfl rfl (c_X12_be hG hS (h := Ok.bind h) (sF_120 hS) (sF_129 hS)) (by decide) (Nat.le_of_ble_eq_true rfl) (by decide) (by decide) dX12_restore_90 rfl (fun D_9 h => ?_)
    refine aw_aload_n (n := 94) (i := 0) dX12_restore_93 rfl rfl rfl ?_
    refine aw_getR (n := 97) (j := 50) (r := 121) hG.1 fl_RX12_124 (sF_88 hS) rfl dX12_restore_94 rfl ?_
    refine aw_aload_n (n := 98) (i := 0) dX12_restore_97 rfl rfl rfl ?_
    refine aw_getR (n := 101) (j := 64) (r := 130) hG.1 fl_RX12_151 (sF_88 hS) rfl dX12_restore_98 rfl ?_
    refine aw_cSv (M := M_X12_restore) (n := 104) (As := [.ref 121, .ref 130]) (rest := []) lk_RX12_383 rfl rfl (c_X12_be hG hS (h := Ok.bind h) (sF_121 hS) (sF_130 hS)) (by decide) (Nat.le_of_ble_eq_true rfl) (by decide) (by decide) dX12_restore_101 rfl (fun D_10 h => ?_)
    refine aw_aload_n (n := 105) (i := 0) dX12_restore_104 rfl rfl rfl ?_
    refine aw_getR (n := 108) (j := 16) (r := 104) hG.1 fl_RX12_66 (sF_88 hS) rfl dX12_restore_105 rfl ?_
    refine aw_aload_n (n := 109) (i := 0) dX12_restore_108 rfl rfl rfl ?_
    refine aw_getR (n := 112) (j := 65) (r := 131) hG.1 fl_RX12_154 (sF_88 hS) rfl dX12_restore_109 rfl ?_
    refine aw_cSv (M := M_X12_restore) (n := 115) (As := [.ref 104, .ref 131]) (rest := []) lk_RX12_383 rfl rfl (c_X12_be hG hS (h := Ok.bind h) (sF_104 hS) (sF_131 hS)) (by decide) (Nat.le_of_ble_eq_true rfl) (by decide) (by decide) dX12_restore_112 rfl (fun D_11 h => ?_)
    refine aw_iconst (n := 116) (v := 1) dX12_restore_115 rfl (by decide) ?_
    exact aw_zret rfl (by decide) (by decide) (by decide) dX12_restore_116 ⟨_, rfl, rfl, (Ok.dn h :)⟩
  · replace h := Ok.iffn h c
    refine aw_iconst (n := 13) (v := 0) dX12_restore_12 rfl (by decide) ?_
    exact aw_zret rfl (by decide) (by decide) (by decide) dX12_restore_13 ⟨_, rfl, rfl, (Ok.dn h :)⟩
