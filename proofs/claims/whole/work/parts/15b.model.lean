theorem dX12_takeHalf_0 : decode cX12_takeHalf 0 = .ok (.iconst 0, 1) := by decide +kernel
theorem dX12_takeHalf_1 : decode cX12_takeHalf 1 = .ok (.istore_n 1, 1) := by decide +kernel
theorem dX12_takeHalf_2 : decode cX12_takeHalf 2 = .ok (.iload_n 1, 1) := by decide +kernel
theorem dX12_takeHalf_3 : decode cX12_takeHalf 3 = .ok (.aload_n 0, 1) := by decide +kernel
theorem dX12_takeHalf_4 : decode cX12_takeHalf 4 = .ok (.arraylength, 1) := by decide +kernel
theorem dX12_takeHalf_5 : decode cX12_takeHalf 5 = .ok (.iconst 2, 1) := by decide +kernel
theorem dX12_takeHalf_6 : decode cX12_takeHalf 6 = .ok (.idiv, 1) := by decide +kernel
theorem dX12_takeHalf_7 : decode cX12_takeHalf 7 = .ok (.if_icmp .ge 20, 3) := by decide +kernel
theorem dX12_takeHalf_10 : decode cX12_takeHalf 10 = .ok (.aload_n 0, 1) := by decide +kernel
theorem dX12_takeHalf_11 : decode cX12_takeHalf 11 = .ok (.iload_n 1, 1) := by decide +kernel
theorem dX12_takeHalf_12 : decode cX12_takeHalf 12 = .ok (.aload_n 0, 1) := by decide +kernel
theorem dX12_takeHalf_13 : decode cX12_takeHalf 13 = .ok (.aload_n 0, 1) := by decide +kernel
theorem dX12_takeHalf_14 : decode cX12_takeHalf 14 = .ok (.arraylength, 1) := by decide +kernel
theorem dX12_takeHalf_15 : decode cX12_takeHalf 15 = .ok (.iconst 2, 1) := by decide +kernel
theorem dX12_takeHalf_16 : decode cX12_takeHalf 16 = .ok (.idiv, 1) := by decide +kernel
theorem dX12_takeHalf_17 : decode cX12_takeHalf 17 = .ok (.iload_n 1, 1) := by decide +kernel
theorem dX12_takeHalf_18 : decode cX12_takeHalf 18 = .ok (.iadd, 1) := by decide +kernel
theorem dX12_takeHalf_19 : decode cX12_takeHalf 19 = .ok (.iaload, 1) := by decide +kernel
theorem dX12_takeHalf_20 : decode cX12_takeHalf 20 = .ok (.iastore, 1) := by decide +kernel
theorem dX12_takeHalf_21 : decode cX12_takeHalf 21 = .ok (.iinc 1 1, 3) := by decide +kernel
theorem dX12_takeHalf_24 : decode cX12_takeHalf 24 = .ok (.goto (-22), 3) := by decide +kernel
theorem dX12_takeHalf_27 : decode cX12_takeHalf 27 = .ok (.return_, 1) := by decide +kernel
def J_X12_takeHalf_27 (a0 : Nat) (na0 : Nat) (D : aD) : Option (aD) :=
  some D
def B_X12_takeHalf_2 (a0 : Nat) (na0 : Nat) (v1 : Int32) (D : aD) : Option ((Int32 × aD) ⊕ ((aD))) :=
  if (Int32.ofNat na0) / 2 ≤ v1 then (some (.inr D)) else (aGd (aIn (((Int32.ofNat na0) / 2) + v1) na0) (aGd (aIn v1 na0) (aLet (pI D a0 v1.toNatClampNeg (gI D a0 (((Int32.ofNat na0) / 2) + v1).toNatClampNeg)) (fun D_3 => aLet (v1 + 1) (fun v1_4 => some (.inl (v1_4, D_3)))))))
def J_X12_takeHalf_2 (a0 : Nat) (na0 : Nat) (v1 : Int32) (D : aD) : Option (aD) :=
  (aLp (fun s => B_X12_takeHalf_2 a0 na0 s.1 s.2) (v1, D)).bind (fun r => J_X12_takeHalf_27 a0 na0 r)
def f_X12_takeHalf (a0 : Nat) (na0 : Nat) (D : aD) : Option (aD) :=
  J_X12_takeHalf_2 a0 na0 0 D
set_option maxRecDepth 100000 in
set_option maxHeartbeats 800000 in
theorem c_X12_takeHalf {G : aG} (hG : gOK G) {shp : List aSh} (hS : aShp shp) {fr : Option Nat} {a0 : Nat} {na0 : Nat} {D : aD} {K : aD → Prop} (h : Ok (f_X12_takeHalf a0 na0 D) K) (ha0 : shp[a0]? = some (.inl (1, na0, []))) : AC G (aRm 1 0 0) M_X12_takeHalf [.ref a0] fr shp D (aQv shp K) := by
  unfold f_X12_takeHalf at h
  refine AC.of (al := [some (.ref a0), none]) (r := 1) (by decide) (Nat.le_of_ble_eq_true rfl) rfl ?_
  have hJ_27 : ∀ (D : aD), Ok (J_X12_takeHalf_27 a0 na0 D) K → AW G (aRm 1 0 0) M_X12_takeHalf fr 0 0 27 [none, none] [] shp D (aQv shp K) := by
    intro D h
    unfold J_X12_takeHalf_27 at h
    exact aw_vret rfl (by decide) (by decide) dX12_takeHalf_27 ⟨rfl, rfl, (Ok.dn h :)⟩
  have hJ_2 : ∀ (v1 : Int32) (D : aD), Ok (J_X12_takeHalf_2 a0 na0 v1 D) K → AW G (aRm 1 0 0) M_X12_takeHalf fr 0 0 2 [some (.ref a0), some (.int v1)] [] shp D (aQv shp K) := by
    intro v1 D h
    unfold J_X12_takeHalf_2 at h
    refine Ok.lp (P := fun s => AW G (aRm 1 0 0) M_X12_takeHalf fr 0 0 2 [some (.ref a0), some (.int (s.1))] [] shp s.2 (aQv shp K)) (fun s Kb2 hL2 hR2 h => ?_) (v1, D) (Ok.bind h)
    obtain ⟨v1, D⟩ := s
    replace h : Ok (B_X12_takeHalf_2 a0 na0 v1 D) Kb2 := h
    unfold B_X12_takeHalf_2 at h
    refine aw_iload_n (n := 3) (i := 1) dX12_takeHalf_2 rfl rfl rfl ?_
    refine aw_aload_n (n := 4) (i := 0) dX12_takeHalf_3 rfl rfl rfl ?_
    refine aw_alen (n := 5) (t := 1) (v := Int32.ofNat na0) hG.1 rfl ha0 rfl dX12_takeHalf_4 rfl ?_
    refine aw_iconst (n := 6) (v := 2) dX12_takeHalf_5 rfl (by decide) ?_
    refine aw_idiv (n := 7) dX12_takeHalf_6 rfl (by decide) ?_
    refine aw_icmp_ge (n := 10) (tgt := 27) dX12_takeHalf_7 rfl (by decide) (fun c => ?_) (fun c => ?_)
    · replace h := Ok.ift h c
      exact aw_le' (hJ_27 D (hR2 D (Ok.dn h :))) trivial
    · replace h := Ok.iff h c
      refine aw_aload_n (n := 11) (i := 0) dX12_takeHalf_10 rfl rfl rfl ?_
      refine aw_iload_n (n := 12) (i := 1) dX12_takeHalf_11 rfl rfl rfl ?_
      refine aw_aload_n (n := 13) (i := 0) dX12_takeHalf_12 rfl rfl rfl ?_
      refine aw_aload_n (n := 14) (i := 0) dX12_takeHalf_13 rfl rfl rfl ?_
      refine aw_alen (n := 15) (t := 1) (v := Int32.ofNat na0) hG.1 rfl ha0 rfl dX12_takeHalf_14 rfl ?_
      refine aw_iconst (n := 16) (v := 2) dX12_takeHalf_15 rfl (by decide) ?_
      refine aw_idiv (n := 17) dX12_takeHalf_16 rfl (by decide) ?_
      refine aw_iload_n (n := 18) (i := 1) dX12_takeHalf_17 rfl rfl rfl ?_
      refine aw_iadd (n := 19) dX12_takeHalf_18 rfl ?_
      obtain ⟨g_1, h⟩ := Ok.gd h
      refine aw_iaload (n := 20) hG.1 ha0 (aIn_in g_1) dX12_takeHalf_19 rfl ?_
      obtain ⟨g_2, h⟩ := Ok.gd h
      obtain ⟨D_3, e_D_3, h⟩ := Ok.let_ h
      refine aw_iastore (n := 21) hG.1 ha0 (aIn_in g_2) e_D_3 dX12_takeHalf_20 rfl ?_
      obtain ⟨v1_4, e_v1_4, h⟩ := Ok.let_ h
      refine aw_iinc (n := 24) (al' := [some (.ref a0), some (.int v1_4)]) dX12_takeHalf_21 rfl rfl e_v1_4 (by decide) rfl ?_
      refine aw_goto (tgt := 2) dX12_takeHalf_24 (by decide) ?_
      exact aw_le' (hL2 (v1_4, D_3) (Ok.dn h :)) ⟨rfl, ⟨rfl, trivial⟩⟩
  refine aw_iconst (n := 1) (v := 0) dX12_takeHalf_0 rfl (by decide) ?_
  refine aw_istore_n (n := 2) (i := 1) (al' := [some (.ref a0), some (.int 0)]) dX12_takeHalf_1 rfl rfl rfl (by decide) rfl ?_
  exact aw_le' (hJ_2 0 D h) ⟨rfl, ⟨rfl, trivial⟩⟩
theorem dX12_take_0 : decode cX12_take 0 = .ok (.aload_n 0, 1) := by decide +kernel
theorem dX12_take_1 : decode cX12_take 1 = .ok (.getfield 27, 3) := by decide +kernel
theorem dX12_take_4 : decode cX12_take 4 = .ok (.invokestatic 299, 3) := by decide +kernel
theorem dX12_take_7 : decode cX12_take 7 = .ok (.aload_n 0, 1) := by decide +kernel
theorem dX12_take_8 : decode cX12_take 8 = .ok (.getfield 30, 3) := by decide +kernel
theorem dX12_take_11 : decode cX12_take 11 = .ok (.invokestatic 299, 3) := by decide +kernel
theorem dX12_take_14 : decode cX12_take 14 = .ok (.aload_n 0, 1) := by decide +kernel
theorem dX12_take_15 : decode cX12_take 15 = .ok (.getfield 33, 3) := by decide +kernel
theorem dX12_take_18 : decode cX12_take 18 = .ok (.invokestatic 299, 3) := by decide +kernel
theorem dX12_take_21 : decode cX12_take 21 = .ok (.aload_n 0, 1) := by decide +kernel
theorem dX12_take_22 : decode cX12_take 22 = .ok (.getfield 36, 3) := by decide +kernel
theorem dX12_take_25 : decode cX12_take 25 = .ok (.invokestatic 299, 3) := by decide +kernel
theorem dX12_take_28 : decode cX12_take 28 = .ok (.aload_n 0, 1) := by decide +kernel
theorem dX12_take_29 : decode cX12_take 29 = .ok (.getfield 39, 3) := by decide +kernel
theorem dX12_take_32 : decode cX12_take 32 = .ok (.invokestatic 299, 3) := by decide +kernel
theorem dX12_take_35 : decode cX12_take 35 = .ok (.aload_n 0, 1) := by decide +kernel
theorem dX12_take_36 : decode cX12_take 36 = .ok (.getfield 42, 3) := by decide +kernel
theorem dX12_take_39 : decode cX12_take 39 = .ok (.invokestatic 299, 3) := by decide +kernel
theorem dX12_take_42 : decode cX12_take 42 = .ok (.aload_n 0, 1) := by decide +kernel
theorem dX12_take_43 : decode cX12_take 43 = .ok (.getfield 45, 3) := by decide +kernel
theorem dX12_take_46 : decode cX12_take 46 = .ok (.invokestatic 299, 3) := by decide +kernel
theorem dX12_take_49 : decode cX12_take 49 = .ok (.aload_n 0, 1) := by decide +kernel
theorem dX12_take_50 : decode cX12_take 50 = .ok (.getfield 48, 3) := by decide +kernel
theorem dX12_take_53 : decode cX12_take 53 = .ok (.invokestatic 299, 3) := by decide +kernel
theorem dX12_take_56 : decode cX12_take 56 = .ok (.aload_n 0, 1) := by decide +kernel
theorem dX12_take_57 : decode cX12_take 57 = .ok (.getfield 51, 3) := by decide +kernel
theorem dX12_take_60 : decode cX12_take 60 = .ok (.invokestatic 299, 3) := by decide +kernel
theorem dX12_take_63 : decode cX12_take 63 = .ok (.aload_n 0, 1) := by decide +kernel
theorem dX12_take_64 : decode cX12_take 64 = .ok (.getfield 54, 3) := by decide +kernel
theorem dX12_take_67 : decode cX12_take 67 = .ok (.invokestatic 299, 3) := by decide +kernel
theorem dX12_take_70 : decode cX12_take 70 = .ok (.aload_n 0, 1) := by decide +kernel
theorem dX12_take_71 : decode cX12_take 71 = .ok (.getfield 57, 3) := by decide +kernel
theorem dX12_take_74 : decode cX12_take 74 = .ok (.invokestatic 299, 3) := by decide +kernel
theorem dX12_take_77 : decode cX12_take 77 = .ok (.aload_n 0, 1) := by decide +kernel
theorem dX12_take_78 : decode cX12_take 78 = .ok (.getfield 60, 3) := by decide +kernel
theorem dX12_take_81 : decode cX12_take 81 = .ok (.invokestatic 299, 3) := by decide +kernel
theorem dX12_take_84 : decode cX12_take 84 = .ok (.aload_n 0, 1) := by decide +kernel
theorem dX12_take_85 : decode cX12_take 85 = .ok (.getfield 63, 3) := by decide +kernel
theorem dX12_take_88 : decode cX12_take 88 = .ok (.invokestatic 299, 3) := by decide +kernel
theorem dX12_take_91 : decode cX12_take 91 = .ok (.iconst 0, 1) := by decide +kernel
theorem dX12_take_92 : decode cX12_take 92 = .ok (.istore_n 1, 1) := by decide +kernel
theorem dX12_take_93 : decode cX12_take 93 = .ok (.iload_n 1, 1) := by decide +kernel
theorem dX12_take_94 : decode cX12_take 94 = .ok (.bipush 12, 2) := by decide +kernel
theorem dX12_take_96 : decode cX12_take 96 = .ok (.if_icmp .gt 16, 3) := by decide +kernel
theorem dX12_take_99 : decode cX12_take 99 = .ok (.aload_n 0, 1) := by decide +kernel
theorem dX12_take_100 : decode cX12_take 100 = .ok (.getfield 76, 3) := by decide +kernel
theorem dX12_take_103 : decode cX12_take 103 = .ok (.iload_n 1, 1) := by decide +kernel
theorem dX12_take_104 : decode cX12_take 104 = .ok (.iconst 0, 1) := by decide +kernel
theorem dX12_take_105 : decode cX12_take 105 = .ok (.iastore, 1) := by decide +kernel
theorem dX12_take_106 : decode cX12_take 106 = .ok (.iinc 1 1, 3) := by decide +kernel
theorem dX12_take_109 : decode cX12_take 109 = .ok (.goto (-16), 3) := by decide +kernel
theorem dX12_take_112 : decode cX12_take 112 = .ok (.iconst 0, 1) := by decide +kernel
theorem dX12_take_113 : decode cX12_take 113 = .ok (.istore_n 1, 1) := by decide +kernel
theorem dX12_take_114 : decode cX12_take 114 = .ok (.iload_n 1, 1) := by decide +kernel
theorem dX12_take_115 : decode cX12_take 115 = .ok (.iconst 5, 1) := by decide +kernel
theorem dX12_take_116 : decode cX12_take 116 = .ok (.if_icmp .ge 16, 3) := by decide +kernel
theorem dX12_take_119 : decode cX12_take 119 = .ok (.aload_n 0, 1) := by decide +kernel
theorem dX12_take_120 : decode cX12_take 120 = .ok (.getfield 79, 3) := by decide +kernel
theorem dX12_take_123 : decode cX12_take 123 = .ok (.iload_n 1, 1) := by decide +kernel
theorem dX12_take_124 : decode cX12_take 124 = .ok (.iload_n 1, 1) := by decide +kernel
theorem dX12_take_125 : decode cX12_take 125 = .ok (.iastore, 1) := by decide +kernel
theorem dX12_take_126 : decode cX12_take 126 = .ok (.iinc 1 1, 3) := by decide +kernel
theorem dX12_take_129 : decode cX12_take 129 = .ok (.goto (-15), 3) := by decide +kernel
theorem dX12_take_132 : decode cX12_take 132 = .ok (.aload_n 0, 1) := by decide +kernel
theorem dX12_take_133 : decode cX12_take 133 = .ok (.aload_n 0, 1) := by decide +kernel
theorem dX12_take_134 : decode cX12_take 134 = .ok (.getfield 27, 3) := by decide +kernel
theorem dX12_take_137 : decode cX12_take 137 = .ok (.iconst 4, 1) := by decide +kernel
theorem dX12_take_138 : decode cX12_take 138 = .ok (.iaload, 1) := by decide +kernel
theorem dX12_take_139 : decode cX12_take 139 = .ok (.putfield 303, 3) := by decide +kernel
theorem dX12_take_142 : decode cX12_take 142 = .ok (.aload_n 0, 1) := by decide +kernel
theorem dX12_take_143 : decode cX12_take 143 = .ok (.bipush 12, 2) := by decide +kernel
theorem dX12_take_145 : decode cX12_take 145 = .ok (.putfield 82, 3) := by decide +kernel
theorem dX12_take_148 : decode cX12_take 148 = .ok (.aload_n 0, 1) := by decide +kernel
theorem dX12_take_149 : decode cX12_take 149 = .ok (.iconst 0, 1) := by decide +kernel
theorem dX12_take_150 : decode cX12_take 150 = .ok (.putfield 306, 3) := by decide +kernel
theorem dX12_take_153 : decode cX12_take 153 = .ok (.aload_n 0, 1) := by decide +kernel
theorem dX12_take_154 : decode cX12_take 154 = .ok (.iconst 0, 1) := by decide +kernel
theorem dX12_take_155 : decode cX12_take 155 = .ok (.putfield 309, 3) := by decide +kernel
theorem dX12_take_158 : decode cX12_take 158 = .ok (.aload_n 0, 1) := by decide +kernel
theorem dX12_take_159 : decode cX12_take 159 = .ok (.iconst 0, 1) := by decide +kernel
theorem dX12_take_160 : decode cX12_take 160 = .ok (.putfield 312, 3) := by decide +kernel
theorem dX12_take_163 : decode cX12_take 163 = .ok (.return_, 1) := by decide +kernel
def J_X12_take_132 (D : aD) : Option (aD) :=
  aGd (aIn 4 32) (aLet (pI D 88 30 (gI D 91 (4 : Int32).toNatClampNeg)) (fun D_15 => aLet (pI D_15 88 31 12) (fun D_16 => aLet (pI D_16 88 32 0) (fun D_17 => aLet (pI D_17 88 33 0) (fun D_18 => aLet (pI D_18 88 55 0) (fun D_19 => some D_19))))))
def B_X12_take_114 (v1 : Int32) (D : aD) : Option ((Int32 × aD) ⊕ ((aD))) :=
  if 5 ≤ v1 then (some (.inr D)) else (aGd (aIn v1 5) (aLet (pI D 107 v1.toNatClampNeg v1) (fun D_21 => aLet (v1 + 1) (fun v1_22 => some (.inl (v1_22, D_21))))))
def J_X12_take_114 (v1 : Int32) (D : aD) : Option (aD) :=
  (aLp (fun s => B_X12_take_114 s.1 s.2) (v1, D)).bind (fun r => J_X12_take_132 r)
def J_X12_take_112 (D : aD) : Option (aD) :=
  J_X12_take_114 0 D
def B_X12_take_93 (v1 : Int32) (D : aD) : Option ((Int32 × aD) ⊕ ((aD))) :=
  if 12 < v1 then (some (.inr D)) else (aGd (aIn v1 13) (aLet (pI D 106 v1.toNatClampNeg 0) (fun D_24 => aLet (v1 + 1) (fun v1_25 => some (.inl (v1_25, D_24))))))
def J_X12_take_93 (v1 : Int32) (D : aD) : Option (aD) :=
  (aLp (fun s => B_X12_take_93 s.1 s.2) (v1, D)).bind (fun r => J_X12_take_112 r)
def f_X12_take (D : aD) : Option (aD) :=
  (f_X12_takeHalf 91 32 D).bind (fun D_1 => (f_X12_takeHalf 92 12 D_1).bind (fun D_2 => (f_X12_takeHalf 93 12 D_2).bind (fun D_3 => (f_X12_takeHalf 94 12 D_3).bind (fun D_4 => (f_X12_takeHalf 95 12 D_4).bind (fun D_5 => (f_X12_takeHalf 96 12 D_5).bind (fun D_6 => (f_X12_takeHalf 97 12 D_6).bind (fun D_7 => (f_X12_takeHalf 98 12 D_7).bind (fun D_8 => (f_X12_takeHalf 99 26 D_8).bind (fun D_9 => (f_X12_takeHalf 100 26 D_9).bind (fun D_10 => (f_X12_takeHalf 101 26 D_10).bind (fun D_11 => (f_X12_takeHalf 102 10 D_11).bind (fun D_12 => (f_X12_takeHalf 103 72 D_12).bind (fun D_13 => J_X12_take_93 0 D_13)))))))))))))
set_option maxRecDepth 100000 in
set_option maxHeartbeats 800000 in
theorem c_X12_take {G : aG} (hG : gOK G) {shp : List aSh} (hS : aShp shp) {fr : Option Nat} {D : aD} {K : aD → Prop} (h : Ok (f_X12_take D) K) : AC G (aRm 2 0 0) M_X12_take [.ref 88] fr shp D (aQv shp K) := by
  unfold f_X12_take at h
  refine AC.of (al := [some (.ref 88), none]) (r := 1) (by decide) (Nat.le_of_ble_eq_true rfl) rfl ?_
  have hJ_132 : ∀ (D : aD), Ok (J_X12_take_132 D) K → AW G (aRm 2 0 0) M_X12_take fr 0 0 132 [some (.ref 88), none] [] shp D (aQv shp K) := by
    intro D h
    unfold J_X12_take_132 at h
    refine aw_aload_n (n := 133) (i := 0) dX12_take_132 rfl rfl rfl ?_
    refine aw_aload_n (n := 134) (i := 0) dX12_take_133 rfl rfl rfl ?_
    refine aw_getR (n := 137) (j := 3) (r := 91) hG.1 fl_RX12_27 (sF_88 hS) rfl dX12_take_134 rfl ?_
    refine aw_iconst (n := 138) (v := 4) dX12_take_137 rfl (by decide) ?_
    obtain ⟨g_14, h⟩ := Ok.gd h
    refine aw_iaload (n := 139) hG.1 (sF_91 hS) (aIn_in g_14) dX12_take_138 rfl ?_
    obtain ⟨D_15, e_D_15, h⟩ := Ok.let_ h
    refine aw_putI (n := 142) (j := 30) hG.1 fl_RX12_303 (sF_88 hS) rfl e_D_15 dX12_take_139 rfl ?_
    refine aw_aload_n (n := 143) (i := 0) dX12_take_142 rfl rfl rfl ?_
    refine aw_bipush (n := 145) (v := 12) dX12_take_143 rfl (by decide) ?_
    obtain ⟨D_16, e_D_16, h⟩ := Ok.let_ h
    refine aw_putI (n := 148) (j := 31) hG.1 fl_RX12_82 (sF_88 hS) rfl e_D_16 dX12_take_145 rfl ?_
    refine aw_aload_n (n := 149) (i := 0) dX12_take_148 rfl rfl rfl ?_
    refine aw_iconst (n := 150) (v := 0) dX12_take_149 rfl (by decide) ?_
    obtain ⟨D_17, e_D_17, h⟩ := Ok.let_ h
    refine aw_putI (n := 153) (j := 32) hG.1 fl_RX12_306 (sF_88 hS) rfl e_D_17 dX12_take_150 rfl ?_
    refine aw_aload_n (n := 154) (i := 0) dX12_take_153 rfl rfl rfl ?_
    refine aw_iconst (n := 155) (v := 0) dX12_take_154 rfl (by decide) ?_
    obtain ⟨D_18, e_D_18, h⟩ := Ok.let_ h
    refine aw_putI (n := 158) (j := 33) hG.1 fl_RX12_309 (sF_88 hS) rfl e_D_18 dX12_take_155 rfl ?_
    refine aw_aload_n (n := 159) (i := 0) dX12_take_158 rfl rfl rfl ?_
    refine aw_iconst (n := 160) (v := 0) dX12_take_159 rfl (by decide) ?_
    obtain ⟨D_19, e_D_19, h⟩ := Ok.let_ h
    refine aw_putZ (n := 163) (j := 55) hG.1 fl_RX12_312 (by decide) (sF_88 hS) rfl e_D_19 dX12_take_160 rfl ?_
    exact aw_vret rfl (by decide) (by decide) dX12_take_163 ⟨rfl, rfl, (Ok.dn h :)⟩
  have hJ_114 : ∀ (v1 : Int32) (D : aD), Ok (J_X12_take_114 v1 D) K → AW G (aRm 2 0 0) M_X12_take fr 0 0 114 [some (.ref 88), some (.int v1)] [] shp D (aQv shp K) := by
    intro v1 D h
    unfold J_X12_take_114 at h
    refine Ok.lp (P := fun s => AW G (aRm 2 0 0) M_X12_take fr 0 0 114 [some (.ref 88), some (.int (s.1))] [] shp s.2 (aQv shp K)) (fun s Kb114 hL114 hR114 h => ?_) (v1, D) (Ok.bind h)
    obtain ⟨v1, D⟩ := s
    replace h : Ok (B_X12_take_114 v1 D) Kb114 := h
    unfold B_X12_take_114 at h
    refine aw_iload_n (n := 115) (i := 1) dX12_take_114 rfl rfl rfl ?_
    refine aw_iconst (n := 116) (v := 5) dX12_take_115 rfl (by decide) ?_
    refine aw_icmp_ge (n := 119) (tgt := 132) dX12_take_116 rfl (by decide) (fun c => ?_) (fun c => ?_)
    · replace h := Ok.ift h c
      exact aw_le' (hJ_132 D (hR114 D (Ok.dn h :))) ⟨rfl, trivial⟩
    · replace h := Ok.iff h c
      refine aw_aload_n (n := 120) (i := 0) dX12_take_119 rfl rfl rfl ?_
      refine aw_getR (n := 123) (j := 29) (r := 107) hG.1 fl_RX12_79 (sF_88 hS) rfl dX12_take_120 rfl ?_
      refine aw_iload_n (n := 124) (i := 1) dX12_take_123 rfl rfl rfl ?_
      refine aw_iload_n (n := 125) (i := 1) dX12_take_124 rfl rfl rfl ?_
      obtain ⟨g_20, h⟩ := Ok.gd h
      obtain ⟨D_21, e_D_21, h⟩ := Ok.let_ h
      refine aw_iastore (n := 126) hG.1 (sF_107 hS) (aIn_in g_20) e_D_21 dX12_take_125 rfl ?_
      obtain ⟨v1_22, e_v1_22, h⟩ := Ok.let_ h
      refine aw_iinc (n := 129) (al' := [some (.ref 88), some (.int v1_22)]) dX12_take_126 rfl rfl e_v1_22 (by decide) rfl ?_
      refine aw_goto (tgt := 114) dX12_take_129 (by decide) ?_
      exact aw_le' (hL114 (v1_22, D_21) (Ok.dn h :)) ⟨rfl, ⟨rfl, trivial⟩⟩
  have hJ_112 : ∀ (D : aD), Ok (J_X12_take_112 D) K → AW G (aRm 2 0 0) M_X12_take fr 0 0 112 [some (.ref 88), none] [] shp D (aQv shp K) := by
    intro D h
    unfold J_X12_take_112 at h
    refine aw_iconst (n := 113) (v := 0) dX12_take_112 rfl (by decide) ?_
    refine aw_istore_n (n := 114) (i := 1) (al' := [some (.ref 88), some (.int 0)]) dX12_take_113 rfl rfl rfl (by decide) rfl ?_
    exact aw_le' (hJ_114 0 D h) ⟨rfl, ⟨rfl, trivial⟩⟩
  have hJ_93 : ∀ (v1 : Int32) (D : aD), Ok (J_X12_take_93 v1 D) K → AW G (aRm 2 0 0) M_X12_take fr 0 0 93 [some (.ref 88), some (.int v1)] [] shp D (aQv shp K) := by
    intro v1 D h
    unfold J_X12_take_93 at h
    refine Ok.lp (P := fun s => AW G (aRm 2 0 0) M_X12_take fr 0 0 93 [some (.ref 88), some (.int (s.1))] [] shp s.2 (aQv shp K)) (fun s Kb93 hL93 hR93 h => ?_) (v1, D) (Ok.bind h)
    obtain ⟨v1, D⟩ := s
    replace h : Ok (B_X12_take_93 v1 D) Kb93 := h
    unfold B_X12_take_93 at h
    refine aw_iload_n (n := 94) (i := 1) dX12_take_93 rfl rfl rfl ?_
    refine aw_bipush (n := 96) (v := 12) dX12_take_94 rfl (by decide) ?_
    refine aw_icmp_gt (n := 99) (tgt := 112) dX12_take_96 rfl (by decide) (fun c => ?_) (fun c => ?_)
    · replace h := Ok.ift h c
      exact aw_le' (hJ_112 D (hR93 D (Ok.dn h :))) ⟨rfl, trivial⟩
    · replace h := Ok.iff h c
      refine aw_aload_n (n := 100) (i := 0) dX12_take_99 rfl rfl rfl ?_
      refine aw_getR (n := 103) (j := 28) (r := 106) hG.1 fl_RX12_76 (sF_88 hS) rfl dX12_take_100 rfl ?_
      refine aw_iload_n (n := 104) (i := 1) dX12_take_103 rfl rfl rfl ?_
      refine aw_iconst (n := 105) (v := 0) dX12_take_104 rfl (by decide) ?_
      obtain ⟨g_23, h⟩ := Ok.gd h
      obtain ⟨D_24, e_D_24, h⟩ := Ok.let_ h
      refine aw_iastore (n := 106) hG.1 (sF_106 hS) (aIn_in g_23) e_D_24 dX12_take_105 rfl ?_
      obtain ⟨v1_25, e_v1_25, h⟩ := Ok.let_ h
      refine aw_iinc (n := 109) (al' := [some (.ref 88), some (.int v1_25)]) dX12_take_106 rfl rfl e_v1_25 (by decide) rfl ?_
      refine aw_goto (tgt := 93) dX12_take_109 (by decide) ?_
      exact aw_le' (hL93 (v1_25, D_24) (Ok.dn h :)) ⟨rfl, ⟨rfl, trivial⟩⟩
  refine aw_aload_n (n := 1) (i := 0) dX12_take_0 rfl rfl rfl ?_
  refine aw_getR (n := 4) (j := 3) (r := 91) hG.1 fl_RX12_27 (sF_88 hS) rfl dX12_take_1 rfl ?_
  refine aw_cSv (M := M_X12_take) (n := 7) (As := [.ref 91]) (rest := []) lk_RX12_299 rfl rfl (c_X12_takeHalf hG hS (h := Ok.bind h) (sF_91 hS)) (by decide) (Nat.le_of_ble_eq_true rfl) (by decide) (by decide) dX12_take_4 rfl (fun D_1 h => ?_)
  refine aw_aload_n (n := 8) (i := 0) dX12_take_7 rfl rfl rfl ?_
  refine aw_getR (n := 11) (j := 4) (r := 92) hG.1 fl_RX12_30 (sF_88 hS) rfl dX12_take_8 rfl ?_
  refine aw_cSv (M := M_X12_take) (n := 14) (As := [.ref 92]) (rest := []) lk_RX12_299 rfl rfl (c_X12_takeHalf hG hS (h := Ok.bind h) (sF_92 hS)) (by decide) (Nat.le_of_ble_eq_true rfl) (by decide) (by decide) dX12_take_11 rfl (fun D_2 h => ?_)
  refine aw_aload_n (n := 15) (i := 0) dX12_take_14 rfl rfl rfl ?_
  refine aw_getR (n := 18) (j := 5) (r := 93) hG.1 fl_RX12_33 (sF_88 hS) rfl dX12_take_15 rfl ?_
  refine aw_cSv (M := M_X12_take) (n := 21) (As := [.ref 93]) (rest := []) lk_RX12_299 rfl rfl (c_X12_takeHalf hG hS (h := Ok.bind h) (sF_93 hS)) (by decide) (Nat.le_of_ble_eq_true rfl) (by decide) (by decide) dX12_take_18 rfl (fun D_3 h => ?_)
  refine aw_aload_n (n := 22) (i := 0) dX12_take_21 rfl rfl rfl ?_
  refine aw_getR (n := 25) (j := 6) (r := 94) hG.1 fl_RX12_36 (sF_88 hS) rfl dX12_take_22 rfl ?_
  refine aw_cSv (M := M_X12_take) (n := 28) (As := [.ref 94]) (rest := []) lk_RX12_299 rfl rfl (c_X12_takeHalf hG hS (h := Ok.bind h) (sF_94 hS)) (by decide) (Nat.le_of_ble_eq_true rfl) (by decide) (by decide) dX12_take_25 rfl (fun D_4 h => ?_)
  refine aw_aload_n (n := 29) (i := 0) dX12_take_28 rfl rfl rfl ?_
  refine aw_getR (n := 32) (j := 7) (r := 95) hG.1 fl_RX12_39 (sF_88 hS) rfl dX12_take_29 rfl ?_
  refine aw_cSv (M := M_X12_take) (n := 35) (As := [.ref 95]) (rest := []) lk_RX12_299 rfl rfl (c_X12_takeHalf hG hS (h := Ok.bind h) (sF_95 hS)) (by decide) (Nat.le_of_ble_eq_true rfl) (by decide) (by decide) dX12_take_32 rfl (fun D_5 h => ?_)
  refine aw_aload_n (n := 36) (i := 0) dX12_take_35 rfl rfl rfl ?_
  refine aw_getR (n := 39) (j := 8) (r := 96) hG.1 fl_RX12_42 (sF_88 hS) rfl dX12_take_36 rfl ?_
  refine aw_cSv (M := M_X12_take) (n := 42) (As := [.ref 96]) (rest := []) lk_RX12_299 rfl rfl (c_X12_takeHalf hG hS (h := Ok.bind h) (sF_96 hS)) (by decide) (Nat.le_of_ble_eq_true rfl) (by decide) (by decide) dX12_take_39 rfl (fun D_6 h => ?_)
  refine aw_aload_n (n := 43) (i := 0) dX12_take_42 rfl rfl rfl ?_
  refine aw_getR (n := 46) (j := 9) (r := 97) hG.1 fl_RX12_45 (sF_88 hS) rfl dX12_take_43 rfl ?_
  refine aw_cSv (M := M_X12_take) (n := 49) (As := [.ref 97]) (rest := []) lk_RX12_299 rfl rfl (c_X12_takeHalf hG hS (h := Ok.bind h) (sF_97 hS)) (by decide) (Nat.le_of_ble_eq_true rfl) (by decide) (by decide) dX12_take_46 rfl (fun D_7 h => ?_)
  refine aw_aload_n (n := 50) (i := 0) dX12_take_49 rfl rfl rfl ?_
  refine aw_getR (n := 53) (j := 10) (r := 98) hG.1 fl_RX12_48 (sF_88 hS) rfl dX12_take_50 rfl ?_
  refine aw_cSv (M := M_X12_take) (n := 56) (As := [.ref 98]) (rest := []) lk_RX12_299 rfl rfl (c_X12_takeHalf hG hS (h := Ok.bind h) (sF_98 hS)) (by decide) (Nat.le_of_ble_eq_true rfl) (by decide) (by decide) dX12_take_53 rfl (fun D_8 h => ?_)
  refine aw_aload_n (n := 57) (i := 0) dX12_take_56 rfl rfl rfl ?_
  refine aw_getR (n := 60) (j := 11) (r := 99) hG.1 fl_RX12_51 (sF_88 hS) rfl dX12_take_57 rfl ?_
  refine aw_cSv (M := M_X12_take) (n := 63) (As := [.ref 99]) (rest := []) lk_RX12_299 rfl rfl (c_X12_takeHalf hG hS (h := Ok.bind h) (sF_99 hS)) (by decide) (Nat.le_of_ble_eq_true rfl) (by decide) (by decide) dX12_take_60 rfl (fun D_9 h => ?_)
  refine aw_aload_n (n := 64) (i := 0) dX12_take_63 rfl rfl rfl ?_
  refine aw_getR (n := 67) (j := 12) (r := 100) hG.1 fl_RX12_54 (sF_88 hS) rfl dX12_take_64 rfl ?_
  refine aw_cSv (M := M_X12_take) (n := 70) (As := [.ref 100]) (rest := []) lk_RX12_299 rfl rfl (c_X12_takeHalf hG hS (h := Ok.bind h) (sF_100 hS)) (by decide) (Nat.le_of_ble_eq_true rfl) (by decide) (by decide) dX12_take_67 rfl (fun D_10 h => ?_)
  refine aw_aload_n (n := 71) (i := 0) dX12_take_70 rfl rfl rfl ?_
  refine aw_getR (n := 74) (j := 13) (r := 101) hG.1 fl_RX12_57 (sF_88 hS) rfl dX12_take_71 rfl ?_
  refine aw_cSv (M := M_X12_take) (n := 77) (As := [.ref 101]) (rest := []) lk_RX12_299 rfl rfl (c_X12_takeHalf hG hS (h := Ok.bind h) (sF_101 hS)) (by decide) (Nat.le_of_ble_eq_true rfl) (by decide) (by decide) dX12_take_74 rfl (fun D_11 h => ?_)
  refine aw_aload_n (n := 78) (i := 0) dX12_take_77 rfl rfl rfl ?_
  refine aw_getR (n := 81) (j := 14) (r := 102) hG.1 fl_RX12_60 (sF_88 hS) rfl dX12_take_78 rfl ?_
  refine aw_cSv (M := M_X12_take) (n := 84) (As := [.ref 102]) (rest := []) lk_RX12_299 rfl rfl (c_X12_takeHalf hG hS (h := Ok.bind h) (sF_102 hS)) (by decide) (Nat.le_of_ble_eq_true rfl) (by decide) (by decide) dX12_take_81 rfl (fun D_12 h => ?_)
  refine aw_aload_n (n := 85) (i := 0) dX12_take_84 rfl rfl rfl ?_
  refine aw_getR (n := 88) (j := 15) (r := 103) hG.1 fl_RX12_63 (sF_88 hS) rfl dX12_take_85 rfl ?_
  refine aw_cSv (M := M_X12_take) (n := 91) (As := [.ref 103]) (rest := []) lk_RX12_299 rfl rfl (c_X12_takeHalf hG hS (h := Ok.bind h) (sF_103 hS)) (by decide) (Nat.le_of_ble_eq_true rfl) (by decide) (by decide) dX12_take_88 rfl (fun D_13 h => ?_)
  refine aw_iconst (n := 92) (v := 0) dX12_take_91 rfl (by decide) ?_
  refine aw_istore_n (n := 93) (i := 1) (al' := [some (.ref 88), some (.int 0)]) dX12_take_92 rfl rfl rfl (by decide) rfl ?_
  exact aw_le' (hJ_93 0 D_13 h) ⟨rfl, ⟨rfl, trivial⟩⟩
theorem dX12_town_0 : decode cX12_town 0 = .ok (.aload_n 0, 1) := by decide +kernel
theorem dX12_town_1 : decode cX12_town 1 = .ok (.iconst 0, 1) := by decide +kernel
theorem dX12_town_2 : decode cX12_town 2 = .ok (.putfield 157, 3) := by decide +kernel
theorem dX12_town_5 : decode cX12_town 5 = .ok (.iload_n 1, 1) := by decide +kernel
theorem dX12_town_6 : decode cX12_town 6 = .ok (.ifCond .lt 11, 3) := by decide +kernel
theorem dX12_town_9 : decode cX12_town 9 = .ok (.iload_n 1, 1) := by decide +kernel
theorem dX12_town_10 : decode cX12_town 10 = .ok (.aload_n 0, 1) := by decide +kernel
theorem dX12_town_11 : decode cX12_town 11 = .ok (.getfield 164, 3) := by decide +kernel
theorem dX12_town_14 : decode cX12_town 14 = .ok (.if_icmp .le 9, 3) := by decide +kernel
theorem dX12_town_17 : decode cX12_town 17 = .ok (.aload_n 0, 1) := by decide +kernel
theorem dX12_town_18 : decode cX12_town 18 = .ok (.iconst 1, 1) := by decide +kernel
theorem dX12_town_19 : decode cX12_town 19 = .ok (.invokevirtual 290, 3) := by decide +kernel
theorem dX12_town_22 : decode cX12_town 22 = .ok (.ireturn, 1) := by decide +kernel
theorem dX12_town_23 : decode cX12_town 23 = .ok (.aload_n 0, 1) := by decide +kernel
theorem dX12_town_24 : decode cX12_town 24 = .ok (.iconst 0, 1) := by decide +kernel
theorem dX12_town_25 : decode cX12_town 25 = .ok (.putfield 164, 3) := by decide +kernel
theorem dX12_town_28 : decode cX12_town 28 = .ok (.aload_n 0, 1) := by decide +kernel
theorem dX12_town_29 : decode cX12_town 29 = .ok (.iload_n 1, 1) := by decide +kernel
theorem dX12_town_30 : decode cX12_town 30 = .ok (.putfield 167, 3) := by decide +kernel
theorem dX12_town_33 : decode cX12_town 33 = .ok (.aload_n 0, 1) := by decide +kernel
theorem dX12_town_34 : decode cX12_town 34 = .ok (.iconst 0, 1) := by decide +kernel
theorem dX12_town_35 : decode cX12_town 35 = .ok (.putfield 170, 3) := by decide +kernel
theorem dX12_town_38 : decode cX12_town 38 = .ok (.aload_n 0, 1) := by decide +kernel
theorem dX12_town_39 : decode cX12_town 39 = .ok (.iconst 0, 1) := by decide +kernel
theorem dX12_town_40 : decode cX12_town 40 = .ok (.putfield 203, 3) := by decide +kernel
theorem dX12_town_43 : decode cX12_town 43 = .ok (.aload_n 0, 1) := by decide +kernel
theorem dX12_town_44 : decode cX12_town 44 = .ok (.iconst (-1), 1) := by decide +kernel
theorem dX12_town_45 : decode cX12_town 45 = .ok (.putfield 72, 3) := by decide +kernel
theorem dX12_town_48 : decode cX12_town 48 = .ok (.iconst 0, 1) := by decide +kernel
theorem dX12_town_49 : decode cX12_town 49 = .ok (.istore_n 2, 1) := by decide +kernel
theorem dX12_town_50 : decode cX12_town 50 = .ok (.iload_n 2, 1) := by decide +kernel
theorem dX12_town_51 : decode cX12_town 51 = .ok (.bipush 16, 2) := by decide +kernel
theorem dX12_town_53 : decode cX12_town 53 = .ok (.if_icmp .ge 69, 3) := by decide +kernel
theorem dX12_town_56 : decode cX12_town 56 = .ok (.aload_n 0, 1) := by decide +kernel
theorem dX12_town_57 : decode cX12_town 57 = .ok (.getfield 27, 3) := by decide +kernel
theorem dX12_town_60 : decode cX12_town 60 = .ok (.bipush 16, 2) := by decide +kernel
theorem dX12_town_62 : decode cX12_town 62 = .ok (.iload_n 2, 1) := by decide +kernel
theorem dX12_town_63 : decode cX12_town 63 = .ok (.iadd, 1) := by decide +kernel
theorem dX12_town_64 : decode cX12_town 64 = .ok (.iload_n 2, 1) := by decide +kernel
theorem dX12_town_65 : decode cX12_town 65 = .ok (.iconst 2, 1) := by decide +kernel
theorem dX12_town_66 : decode cX12_town 66 = .ok (.if_icmp .ge 8, 3) := by decide +kernel
theorem dX12_town_69 : decode cX12_town 69 = .ok (.bipush 6, 2) := by decide +kernel
theorem dX12_town_71 : decode cX12_town 71 = .ok (.goto 44, 3) := by decide +kernel
theorem dX12_town_74 : decode cX12_town 74 = .ok (.iload_n 2, 1) := by decide +kernel
theorem dX12_town_75 : decode cX12_town 75 = .ok (.bipush 6, 2) := by decide +kernel
theorem dX12_town_77 : decode cX12_town 77 = .ok (.if_icmp .ge 7, 3) := by decide +kernel
theorem dX12_town_80 : decode cX12_town 80 = .ok (.iconst 0, 1) := by decide +kernel
theorem dX12_town_81 : decode cX12_town 81 = .ok (.goto 34, 3) := by decide +kernel
theorem dX12_town_84 : decode cX12_town 84 = .ok (.iload_n 2, 1) := by decide +kernel
theorem dX12_town_85 : decode cX12_town 85 = .ok (.bipush 6, 2) := by decide +kernel
theorem dX12_town_87 : decode cX12_town 87 = .ok (.if_icmp .ne 7, 3) := by decide +kernel
theorem dX12_town_90 : decode cX12_town 90 = .ok (.iconst 5, 1) := by decide +kernel
theorem dX12_town_91 : decode cX12_town 91 = .ok (.goto 24, 3) := by decide +kernel
theorem dX12_town_94 : decode cX12_town 94 = .ok (.iload_n 2, 1) := by decide +kernel
theorem dX12_town_95 : decode cX12_town 95 = .ok (.bipush 9, 2) := by decide +kernel
theorem dX12_town_97 : decode cX12_town 97 = .ok (.if_icmp .ge 7, 3) := by decide +kernel
theorem dX12_town_100 : decode cX12_town 100 = .ok (.iconst 2, 1) := by decide +kernel
theorem dX12_town_101 : decode cX12_town 101 = .ok (.goto 14, 3) := by decide +kernel
theorem dX12_town_104 : decode cX12_town 104 = .ok (.iload_n 2, 1) := by decide +kernel
theorem dX12_town_105 : decode cX12_town 105 = .ok (.bipush 9, 2) := by decide +kernel
theorem dX12_town_107 : decode cX12_town 107 = .ok (.if_icmp .ne 7, 3) := by decide +kernel
theorem dX12_town_110 : decode cX12_town 110 = .ok (.iconst 0, 1) := by decide +kernel
theorem dX12_town_111 : decode cX12_town 111 = .ok (.goto 4, 3) := by decide +kernel
theorem dX12_town_114 : decode cX12_town 114 = .ok (.iconst 1, 1) := by decide +kernel
theorem dX12_town_115 : decode cX12_town 115 = .ok (.iastore, 1) := by decide +kernel
theorem dX12_town_116 : decode cX12_town 116 = .ok (.iinc 2 1, 3) := by decide +kernel
theorem dX12_town_119 : decode cX12_town 119 = .ok (.goto (-69), 3) := by decide +kernel
theorem dX12_town_122 : decode cX12_town 122 = .ok (.iconst 0, 1) := by decide +kernel
theorem dX12_town_123 : decode cX12_town 123 = .ok (.istore_n 2, 1) := by decide +kernel
theorem dX12_town_124 : decode cX12_town 124 = .ok (.iload_n 2, 1) := by decide +kernel
theorem dX12_town_125 : decode cX12_town 125 = .ok (.bipush 36, 2) := by decide +kernel
theorem dX12_town_127 : decode cX12_town 127 = .ok (.if_icmp .ge 19, 3) := by decide +kernel
theorem dX12_town_130 : decode cX12_town 130 = .ok (.aload_n 0, 1) := by decide +kernel
theorem dX12_town_131 : decode cX12_town 131 = .ok (.getfield 63, 3) := by decide +kernel
theorem dX12_town_134 : decode cX12_town 134 = .ok (.bipush 36, 2) := by decide +kernel
theorem dX12_town_136 : decode cX12_town 136 = .ok (.iload_n 2, 1) := by decide +kernel
theorem dX12_town_137 : decode cX12_town 137 = .ok (.iadd, 1) := by decide +kernel
theorem dX12_town_138 : decode cX12_town 138 = .ok (.iconst 0, 1) := by decide +kernel
theorem dX12_town_139 : decode cX12_town 139 = .ok (.iastore, 1) := by decide +kernel
theorem dX12_town_140 : decode cX12_town 140 = .ok (.iinc 2 1, 3) := by decide +kernel
theorem dX12_town_143 : decode cX12_town 143 = .ok (.goto (-19), 3) := by decide +kernel
theorem dX12_town_146 : decode cX12_town 146 = .ok (.aload_n 0, 1) := by decide +kernel
theorem dX12_town_147 : decode cX12_town 147 = .ok (.invokevirtual 221, 3) := by decide +kernel
theorem dX12_town_150 : decode cX12_town 150 = .ok (.iconst 0, 1) := by decide +kernel
theorem dX12_town_151 : decode cX12_town 151 = .ok (.istore_n 2, 1) := by decide +kernel
theorem dX12_town_152 : decode cX12_town 152 = .ok (.aload_n 0, 1) := by decide +kernel
theorem dX12_town_153 : decode cX12_town 153 = .ok (.getfield 203, 3) := by decide +kernel
theorem dX12_town_156 : decode cX12_town 156 = .ok (.ifCond .ne 19, 3) := by decide +kernel
theorem dX12_town_159 : decode cX12_town 159 = .ok (.aload_n 0, 1) := by decide +kernel
theorem dX12_town_160 : decode cX12_town 160 = .ok (.getfield 180, 3) := by decide +kernel
theorem dX12_town_163 : decode cX12_town 163 = .ok (.ifCond .eq 12, 3) := by decide +kernel
theorem dX12_town_166 : decode cX12_town 166 = .ok (.aload_n 0, 1) := by decide +kernel
theorem dX12_town_167 : decode cX12_town 167 = .ok (.iload_n 2, 1) := by decide +kernel
theorem dX12_town_168 : decode cX12_town 168 = .ok (.invokevirtual 293, 3) := by decide +kernel
theorem dX12_town_171 : decode cX12_town 171 = .ok (.istore_n 2, 1) := by decide +kernel
theorem dX12_town_172 : decode cX12_town 172 = .ok (.goto (-20), 3) := by decide +kernel
theorem dX12_town_175 : decode cX12_town 175 = .ok (.aload_n 0, 1) := by decide +kernel
theorem dX12_town_176 : decode cX12_town 176 = .ok (.getfield 203, 3) := by decide +kernel
theorem dX12_town_179 : decode cX12_town 179 = .ok (.ifCond .eq 26, 3) := by decide +kernel
theorem dX12_town_182 : decode cX12_town 182 = .ok (.aload_n 0, 1) := by decide +kernel
theorem dX12_town_183 : decode cX12_town 183 = .ok (.aload_n 0, 1) := by decide +kernel
theorem dX12_town_184 : decode cX12_town 184 = .ok (.getfield 206, 3) := by decide +kernel
theorem dX12_town_187 : decode cX12_town 187 = .ok (.putfield 72, 3) := by decide +kernel
theorem dX12_town_190 : decode cX12_town 190 = .ok (.aload_n 0, 1) := by decide +kernel
theorem dX12_town_191 : decode cX12_town 191 = .ok (.getfield 66, 3) := by decide +kernel
theorem dX12_town_194 : decode cX12_town 194 = .ok (.iconst 0, 1) := by decide +kernel
theorem dX12_town_195 : decode cX12_town 195 = .ok (.dup2, 1) := by decide +kernel
theorem dX12_town_196 : decode cX12_town 196 = .ok (.iaload, 1) := by decide +kernel
theorem dX12_town_197 : decode cX12_town 197 = .ok (.iconst 1, 1) := by decide +kernel
theorem dX12_town_198 : decode cX12_town 198 = .ok (.iadd, 1) := by decide +kernel
theorem dX12_town_199 : decode cX12_town 199 = .ok (.iastore, 1) := by decide +kernel
theorem dX12_town_200 : decode cX12_town 200 = .ok (.aload_n 0, 1) := by decide +kernel
theorem dX12_town_201 : decode cX12_town 201 = .ok (.getfield 203, 3) := by decide +kernel
theorem dX12_town_204 : decode cX12_town 204 = .ok (.ireturn, 1) := by decide +kernel
theorem dX12_town_205 : decode cX12_town 205 = .ok (.aload_n 0, 1) := by decide +kernel
theorem dX12_town_206 : decode cX12_town 206 = .ok (.invokevirtual 296, 3) := by decide +kernel
theorem dX12_town_209 : decode cX12_town 209 = .ok (.iconst 0, 1) := by decide +kernel
theorem dX12_town_210 : decode cX12_town 210 = .ok (.ireturn, 1) := by decide +kernel
def J_X12_town_175 (D : aD) : Option (Int32 × aD) :=
  if gI D 88 25 = 0 then ((f_X12_take D).bind (fun D_10 => some (0, D_10))) else (aLet (pI D 88 27 (gI D 88 26)) (fun D_11 => aGd (aIn 0 3) (aGd (aIn 0 3) (aLet (pI D_11 104 (0 : Int32).toNatClampNeg ((gI D_11 104 (0 : Int32).toNatClampNeg) + 1)) (fun D_14 => some (gI D_14 88 25, D_14))))))
def B_X12_town_152 (v2 : Int32) (D : aD) : Option ((Int32 × aD) ⊕ ((aD))) :=
  if gI D 88 25 ≠ 0 then (some (.inr D)) else (if gI D 88 21 = 0 then (some (.inr D)) else (aBi (f_X12_readLine v2 D) (fun y_15 D_16 => some (.inl (y_15, D_16)))))
def J_X12_town_152 (v2 : Int32) (D : aD) : Option (Int32 × aD) :=
  (aLp (fun s => B_X12_town_152 s.1 s.2) (v2, D)).bind (fun r => J_X12_town_175 r)
def J_X12_town_146 (D : aD) : Option (Int32 × aD) :=
  (f_X12_stepOn D).bind (fun D_9 => J_X12_town_152 0 D_9)
def B_X12_town_124 (v2 : Int32) (D : aD) : Option ((Int32 × aD) ⊕ ((aD))) :=
  if 36 ≤ v2 then (some (.inr D)) else (aGd (aIn (36 + v2) 72) (aLet (pI D 103 (36 + v2).toNatClampNeg 0) (fun D_18 => aLet (v2 + 1) (fun v2_19 => some (.inl (v2_19, D_18))))))
def J_X12_town_124 (v2 : Int32) (D : aD) : Option (Int32 × aD) :=
  (aLp (fun s => B_X12_town_124 s.1 s.2) (v2, D)).bind (fun r => J_X12_town_146 r)
def J_X12_town_122 (D : aD) : Option (Int32 × aD) :=
  J_X12_town_124 0 D
def B_X12_town_50 (v2 : Int32) (D : aD) : Option ((Int32 × aD) ⊕ ((aD))) :=
  if 16 ≤ v2 then (some (.inr D)) else (if 2 ≤ v2 then (if 6 ≤ v2 then (if v2 ≠ 6 then (if 9 ≤ v2 then (if v2 ≠ 9 then (aGd (aIn (16 + v2) 32) (aLet (pI D 91 (16 + v2).toNatClampNeg 1) (fun D_21 => aLet (v2 + 1) (fun v2_22 => some (.inl (v2_22, D_21)))))) else (aGd (aIn (16 + v2) 32) (aLet (pI D 91 (16 + v2).toNatClampNeg 0) (fun D_24 => aLet (v2 + 1) (fun v2_25 => some (.inl (v2_25, D_24))))))) else (aGd (aIn (16 + v2) 32) (aLet (pI D 91 (16 + v2).toNatClampNeg 2) (fun D_27 => aLet (v2 + 1) (fun v2_28 => some (.inl (v2_28, D_27))))))) else (aGd (aIn (16 + v2) 32) (aLet (pI D 91 (16 + v2).toNatClampNeg 5) (fun D_30 => aLet (v2 + 1) (fun v2_31 => some (.inl (v2_31, D_30))))))) else (aGd (aIn (16 + v2) 32) (aLet (pI D 91 (16 + v2).toNatClampNeg 0) (fun D_33 => aLet (v2 + 1) (fun v2_34 => some (.inl (v2_34, D_33))))))) else (aGd (aIn (16 + v2) 32) (aLet (pI D 91 (16 + v2).toNatClampNeg 6) (fun D_36 => aLet (v2 + 1) (fun v2_37 => some (.inl (v2_37, D_36)))))))
def J_X12_town_50 (v2 : Int32) (D : aD) : Option (Int32 × aD) :=
  (aLp (fun s => B_X12_town_50 s.1 s.2) (v2, D)).bind (fun r => J_X12_town_122 r)
def f_X12_town (v1 : Int32) (D : aD) : Option (Int32 × aD) :=
  aLet (pI D 88 2 0) (fun D_1 => if v1 < 0 then (aBi (f_X12_fail 1 D_1) (fun y_2 D_3 => some (y_2, D_3))) else (if v1 ≤ gI D_1 88 18 then (aLet (pI D_1 88 18 0) (fun D_4 => aLet (pI D_4 88 20 v1) (fun D_5 => aLet (pI D_5 88 19 0) (fun D_6 => aLet (pI D_6 88 25 0) (fun D_7 => aLet (pI D_7 88 27 (-1)) (fun D_8 => J_X12_town_50 0 D_8)))))) else (aBi (f_X12_fail 1 D_1) (fun y_38 D_39 => some (y_38, D_39)))))
set_option maxRecDepth 100000 in
set_option maxHeartbeats 800000 in
theorem c_X12_town {G : aG} (hG : gOK G) {shp : List aSh} (hS : aShp shp) {fr : Option Nat} {v1 : Int32} {D : aD} {K : Int32 → aD → Prop} (h : Ok2 (f_X12_town v1 D) K) : AC G (aRm 13 0 0) M_X12_town [.ref 88, .int v1] fr shp D (aQi shp K) := by
  replace h := Ok2.ok h
  unfold f_X12_town at h
  refine AC.of (al := [some (.ref 88), some (.int v1), none]) (r := 1) (by decide) (Nat.le_of_ble_eq_true rfl) rfl ?_
  have hJ_175 : ∀ (D : aD), Ok (J_X12_town_175 D) (fun r => K r.1 r.2) → AW G (aRm 13 0 0) M_X12_town fr 0 0 175 [some (.ref 88), none, none] [] shp D (aQi shp K) := by
    intro D h
    unfold J_X12_town_175 at h
    refine aw_aload_n (n := 176) (i := 0) dX12_town_175 rfl rfl rfl ?_
    refine aw_getI (n := 179) (j := 25) hG.1 fl_RX12_203 (sF_88 hS) rfl dX12_town_176 rfl ?_
    refine aw_if_eq (n := 182) (tgt := 205) dX12_town_179 rfl (by decide) (fun c => ?_) (fun c => ?_)
    · replace h := Ok.ift h c
      refine aw_aload_n (n := 206) (i := 0) dX12_town_205 rfl rfl rfl ?_
      refine aw_cVv (M := M_X12_town) (n := 209) (As := []) (rest := []) hG.1 lk_RX12_296 rfl rfl (sF_88 hS) (c_X12_take hG hS (h := Ok.bind h)) (by decide) (Nat.le_of_ble_eq_true rfl) (by decide) (by decide) dX12_town_206 rfl (fun D_10 h => ?_)
      refine aw_iconst (n := 210) (v := 0) dX12_town_209 rfl (by decide) ?_
      exact aw_iret rfl (by decide) (by decide) dX12_town_210 ⟨_, rfl, rfl, (Ok.dn h :)⟩
    · replace h := Ok.iff h c
      refine aw_aload_n (n := 183) (i := 0) dX12_town_182 rfl rfl rfl ?_
      refine aw_aload_n (n := 184) (i := 0) dX12_town_183 rfl rfl rfl ?_
      refine aw_getI (n := 187) (j := 26) hG.1 fl_RX12_206 (sF_88 hS) rfl dX12_town_184 rfl ?_
      obtain ⟨D_11, e_D_11, h⟩ := Ok.let_ h
      refine aw_putI (n := 190) (j := 27) hG.1 fl_RX12_72 (sF_88 hS) rfl e_D_11 dX12_town_187 rfl ?_
      refine aw_aload_n (n := 191) (i := 0) dX12_town_190 rfl rfl rfl ?_
      refine aw_getR (n := 194) (j := 16) (r := 104) hG.1 fl_RX12_66 (sF_88 hS) rfl dX12_town_191 rfl ?_
      refine aw_iconst (n := 195) (v := 0) dX12_town_194 rfl (by decide) ?_
      refine aw_dup2 (n := 196) dX12_town_195 rfl rfl rfl ?_
      obtain ⟨g_12, h⟩ := Ok.gd h
      refine aw_iaload (n := 197) hG.1 (sF_104 hS) (aIn_in g_12) dX12_town_196 rfl ?_
      refine aw_iconst (n := 198) (v := 1) dX12_town_197 rfl (by decide) ?_
      refine aw_iadd (n := 199) dX12_town_198 rfl ?_
      obtain ⟨g_13, h⟩ := Ok.gd h
      obtain ⟨D_14, e_D_14, h⟩ := Ok.let_ h
      refine aw_iastore (n := 200) hG.1 (sF_104 hS) (aIn_in g_13) e_D_14 dX12_town_199 rfl ?_
      refine aw_aload_n (n := 201) (i := 0) dX12_town_200 rfl rfl rfl ?_
      refine aw_getI (n := 204) (j := 25) hG.1 fl_RX12_203 (sF_88 hS) rfl dX12_town_201 rfl ?_
      exact aw_iret rfl (by decide) (by decide) dX12_town_204 ⟨_, rfl, rfl, (Ok.dn h :)⟩
  have hJ_152 : ∀ (v2 : Int32) (D : aD), Ok (J_X12_town_152 v2 D) (fun r => K r.1 r.2) → AW G (aRm 13 0 0) M_X12_town fr 0 0 152 [some (.ref 88), none, some (.int v2)] [] shp D (aQi shp K) := by
    intro v2 D h
    unfold J_X12_town_152 at h
    refine Ok.lp (P := fun s => AW G (aRm 13 0 0) M_X12_town fr 0 0 152 [some (.ref 88), none, some (.int (s.1))] [] shp s.2 (aQi shp K)) (fun s Kb152 hL152 hR152 h => ?_) (v2, D) (Ok.bind h)
    obtain ⟨v2, D⟩ := s
    replace h : Ok (B_X12_town_152 v2 D) Kb152 := h
    unfold B_X12_town_152 at h
    refine aw_aload_n (n := 153) (i := 0) dX12_town_152 rfl rfl rfl ?_
    refine aw_getI (n := 156) (j := 25) hG.1 fl_RX12_203 (sF_88 hS) rfl dX12_town_153 rfl ?_
    refine aw_if_ne (n := 159) (tgt := 175) dX12_town_156 rfl (by decide) (fun c => ?_) (fun c => ?_)
    · replace h := Ok.ift h c
      exact aw_le' (hJ_175 D (hR152 D (Ok.dn h :))) ⟨rfl, trivial⟩
    · replace h := Ok.iffn h c
      refine aw_aload_n (n := 160) (i := 0) dX12_town_159 rfl rfl rfl ?_
      refine aw_getI (n := 163) (j := 21) hG.1 fl_RX12_180 (sF_88 hS) rfl dX12_town_160 rfl ?_
      refine aw_if_eq (n := 166) (tgt := 175) dX12_town_163 rfl (by decide) (fun c => ?_) (fun c => ?_)
      · replace h := Ok.ift h c
        exact aw_le' (hJ_175 D (hR152 D (Ok.dn h :))) ⟨rfl, trivial⟩
      · replace h := Ok.iff h c
        refine aw_aload_n (n := 167) (i := 0) dX12_town_166 rfl rfl rfl ?_
        refine aw_iload_n (n := 168) (i := 2) dX12_town_167 rfl rfl rfl ?_
        refine aw_cVi (M := M_X12_town) (n := 171) (As := [.int v2]) (rest := []) hG.1 lk_RX12_293 rfl rfl (sF_88 hS) (c_X12_readLine hG hS (h := Ok.bi h)) (by decide) (Nat.le_of_ble_eq_true rfl) (by decide) (by decide) dX12_town_168 rfl (fun y_15 D_16 h => ?_)
        refine aw_istore_n (n := 172) (i := 2) (al' := [some (.ref 88), none, some (.int y_15)]) dX12_town_171 rfl rfl rfl (by decide) rfl ?_
        refine aw_goto (tgt := 152) dX12_town_172 (by decide) ?_
        exact aw_le' (hL152 (y_15, D_16) (Ok.dn h :)) ⟨rfl, ⟨rfl, trivial⟩⟩
  have hJ_146 : ∀ (D : aD), Ok (J_X12_town_146 D) (fun r => K r.1 r.2) → AW G (aRm 13 0 0) M_X12_town fr 0 0 146 [some (.ref 88), none, none] [] shp D (aQi shp K) := by
    intro D h
    unfold J_X12_town_146 at h
    refine aw_aload_n (n := 147) (i := 0) dX12_town_146 rfl rfl rfl ?_
    refine aw_cVv (M := M_X12_town) (n := 150) (As := []) (rest := []) hG.1 lk_RX12_221 rfl rfl (sF_88 hS) (c_X12_stepOn hG hS (h := Ok.bind h)) (by decide) (Nat.le_of_ble_eq_true rfl) (by decide) (by decide) dX12_town_147 rfl (fun D_9 h => ?_)
    refine aw_iconst (n := 151) (v := 0) dX12_town_150 rfl (by decide) ?_
    refine aw_istore_n (n := 152) (i := 2) (al' := [some (.ref 88), none, some (.int 0)]) dX12_town_151 rfl rfl rfl (by decide) rfl ?_
    exact aw_le' (hJ_152 0 D_9 h) ⟨rfl, ⟨rfl, trivial⟩⟩
  have hJ_124 : ∀ (v2 : Int32) (D : aD), Ok (J_X12_town_124 v2 D) (fun r => K r.1 r.2) → AW G (aRm 13 0 0) M_X12_town fr 0 0 124 [some (.ref 88), none, some (.int v2)] [] shp D (aQi shp K) := by
    intro v2 D h
    unfold J_X12_town_124 at h
    refine Ok.lp (P := fun s => AW G (aRm 13 0 0) M_X12_town fr 0 0 124 [some (.ref 88), none, some (.int (s.1))] [] shp s.2 (aQi shp K)) (fun s Kb124 hL124 hR124 h => ?_) (v2, D) (Ok.bind h)
    obtain ⟨v2, D⟩ := s
    replace h : Ok (B_X12_town_124 v2 D) Kb124 := h
    unfold B_X12_town_124 at h
    refine aw_iload_n (n := 125) (i := 2) dX12_town_124 rfl rfl rfl ?_
    refine aw_bipush (n := 127) (v := 36) dX12_town_125 rfl (by decide) ?_
    refine aw_icmp_ge (n := 130) (tgt := 146) dX12_town_127 rfl (by decide) (fun c => ?_) (fun c => ?_)
    · replace h := Ok.ift h c
      exact aw_le' (hJ_146 D (hR124 D (Ok.dn h :))) ⟨rfl, trivial⟩
    · replace h := Ok.iff h c
      refine aw_aload_n (n := 131) (i := 0) dX12_town_130 rfl rfl rfl ?_
      refine aw_getR (n := 134) (j := 15) (r := 103) hG.1 fl_RX12_63 (sF_88 hS) rfl dX12_town_131 rfl ?_
      refine aw_bipush (n := 136) (v := 36) dX12_town_134 rfl (by decide) ?_
      refine aw_iload_n (n := 137) (i := 2) dX12_town_136 rfl rfl rfl ?_
      refine aw_iadd (n := 138) dX12_town_137 rfl ?_
      refine aw_iconst (n := 139) (v := 0) dX12_town_138 rfl (by decide) ?_
      obtain ⟨g_17, h⟩ := Ok.gd h
      obtain ⟨D_18, e_D_18, h⟩ := Ok.let_ h
      refine aw_iastore (n := 140) hG.1 (sF_103 hS) (aIn_in g_17) e_D_18 dX12_town_139 rfl ?_
      obtain ⟨v2_19, e_v2_19, h⟩ := Ok.let_ h
      refine aw_iinc (n := 143) (al' := [some (.ref 88), none, some (.int v2_19)]) dX12_town_140 rfl rfl e_v2_19 (by decide) rfl ?_
      refine aw_goto (tgt := 124) dX12_town_143 (by decide) ?_
      exact aw_le' (hL124 (v2_19, D_18) (Ok.dn h :)) ⟨rfl, ⟨rfl, trivial⟩⟩
  have hJ_122 : ∀ (D : aD), Ok (J_X12_town_122 D) (fun r => K r.1 r.2) → AW G (aRm 13 0 0) M_X12_town fr 0 0 122 [some (.ref 88), none, none] [] shp D (aQi shp K) := by
    intro D h
    unfold J_X12_town_122 at h
    refine aw_iconst (n := 123) (v := 0) dX12_town_122 rfl (by decide) ?_
    refine aw_istore_n (n := 124) (i := 2) (al' := [some (.ref 88), none, some (.int 0)]) dX12_town_123 rfl rfl rfl (by decide) rfl ?_
    exact aw_le' (hJ_124 0 D h) ⟨rfl, ⟨rfl, trivial⟩⟩
  have hJ_50 : ∀ (v2 : Int32) (D : aD), Ok (J_X12_town_50 v2 D) (fun r => K r.1 r.2) → AW G (aRm 13 0 0) M_X12_town fr 0 0 50 [some (.ref 88), none, some (.int v2)] [] shp D (aQi shp K) := by
    intro v2 D h
    unfold J_X12_town_50 at h
    refine Ok.lp (P := fun s => AW G (aRm 13 0 0) M_X12_town fr 0 0 50 [some (.ref 88), none, some (.int (s.1))] [] shp s.2 (aQi shp K)) (fun s Kb50 hL50 hR50 h => ?_) (v2, D) (Ok.bind h)
    obtain ⟨v2, D⟩ := s
    replace h : Ok (B_X12_town_50 v2 D) Kb50 := h
    unfold B_X12_town_50 at h
    refine aw_iload_n (n := 51) (i := 2) dX12_town_50 rfl rfl rfl ?_
    refine aw_bipush (n := 53) (v := 16) dX12_town_51 rfl (by decide) ?_
    refine aw_icmp_ge (n := 56) (tgt := 122) dX12_town_53 rfl (by decide) (fun c => ?_) (fun c => ?_)
    · replace h := Ok.ift h c
      exact aw_le' (hJ_122 D (hR50 D (Ok.dn h :))) ⟨rfl, trivial⟩
    · replace h := Ok.iff h c
      refine aw_aload_n (n := 57) (i := 0) dX12_town_56 rfl rfl rfl ?_
      refine aw_getR (n := 60) (j := 3) (r := 91) hG.1 fl_RX12_27 (sF_88 hS) rfl dX12_town_57 rfl ?_
      refine aw_bipush (n := 62) (v := 16) dX12_town_60 rfl (by decide) ?_
      refine aw_iload_n (n := 63) (i := 2) dX12_town_62 rfl rfl rfl ?_
      refine aw_iadd (n := 64) dX12_town_63 rfl ?_
      refine aw_iload_n (n := 65) (i := 2) dX12_town_64 rfl rfl rfl ?_
      refine aw_iconst (n := 66) (v := 2) dX12_town_65 rfl (by decide) ?_
      refine aw_icmp_ge (n := 69) (tgt := 74) dX12_town_66 rfl (by decide) (fun c => ?_) (fun c => ?_)
      · replace h := Ok.ift h c
        refine aw_iload_n (n := 75) (i := 2) dX12_town_74 rfl rfl rfl ?_
        refine aw_bipush (n := 77) (v := 6) dX12_town_75 rfl (by decide) ?_
        refine aw_icmp_ge (n := 80) (tgt := 84) dX12_town_77 rfl (by decide) (fun c => ?_) (fun c => ?_)
        · replace h := Ok.ift h c
          refine aw_iload_n (n := 85) (i := 2) dX12_town_84 rfl rfl rfl ?_
          refine aw_bipush (n := 87) (v := 6) dX12_town_85 rfl (by decide) ?_
          refine aw_icmp_ne (n := 90) (tgt := 94) dX12_town_87 rfl (by decide) (fun c => ?_) (fun c => ?_)
          · replace h := Ok.ift h c
            refine aw_iload_n (n := 95) (i := 2) dX12_town_94 rfl rfl rfl ?_
            refine aw_bipush (n := 97) (v := 9) dX12_town_95 rfl (by decide) ?_
            refine aw_icmp_ge (n := 100) (tgt := 104) dX12_town_97 rfl (by decide) (fun c => ?_) (fun c => ?_)
            · replace h := Ok.ift h c
              refine aw_iload_n (n := 105) (i := 2) dX12_town_104 rfl rfl rfl ?_
              refine aw_bipush (n := 107) (v := 9) dX12_town_105 rfl (by decide) ?_
              refine aw_icmp_ne (n := 110) (tgt := 114) dX12_town_107 rfl (by decide) (fun c => ?_) (fun c => ?_)
              · replace h := Ok.ift h c
                refine aw_iconst (n := 115) (v := 1) dX12_town_114 rfl (by decide) ?_
                obtain ⟨g_20, h⟩ := Ok.gd h
                obtain ⟨D_21, e_D_21, h⟩ := Ok.let_ h
                refine aw_iastore (n := 116) hG.1 (sF_91 hS) (aIn_in g_20) e_D_21 dX12_town_115 rfl ?_
                obtain ⟨v2_22, e_v2_22, h⟩ := Ok.let_ h
                refine aw_iinc (n := 119) (al' := [some (.ref 88), none, some (.int v2_22)]) dX12_town_116 rfl rfl e_v2_22 (by decide) rfl ?_
                refine aw_goto (tgt := 50) dX12_town_119 (by decide) ?_
                exact aw_le' (hL50 (v2_22, D_21) (Ok.dn h :)) ⟨rfl, ⟨rfl, trivial⟩⟩
              · replace h := Ok.iffn h c
                refine aw_iconst (n := 111) (v := 0) dX12_town_110 rfl (by decide) ?_
                refine aw_goto (tgt := 115) dX12_town_111 (by decide) ?_
                obtain ⟨g_23, h⟩ := Ok.gd h
                obtain ⟨D_24, e_D_24, h⟩ := Ok.let_ h
                refine aw_iastore (n := 116) hG.1 (sF_91 hS) (aIn_in g_23) e_D_24 dX12_town_115 rfl ?_
                obtain ⟨v2_25, e_v2_25, h⟩ := Ok.let_ h
                refine aw_iinc (n := 119) (al' := [some (.ref 88), none, some (.int v2_25)]) dX12_town_116 rfl rfl e_v2_25 (by decide) rfl ?_
                refine aw_goto (tgt := 50) dX12_town_119 (by decide) ?_
                exact aw_le' (hL50 (v2_25, D_24) (Ok.dn h :)) ⟨rfl, ⟨rfl, trivial⟩⟩
            · replace h := Ok.iff h c
              refine aw_iconst (n := 101) (v := 2) dX12_town_100 rfl (by decide) ?_
              refine aw_goto (tgt := 115) dX12_town_101 (by decide) ?_
              obtain ⟨g_26, h⟩ := Ok.gd h
              obtain ⟨D_27, e_D_27, h⟩ := Ok.let_ h
              refine aw_iastore (n := 116) hG.1 (sF_91 hS) (aIn_in g_26) e_D_27 dX12_town_115 rfl ?_
              obtain ⟨v2_28, e_v2_28, h⟩ := Ok.let_ h
              refine aw_iinc (n := 119) (al' := [some (.ref 88), none, some (.int v2_28)]) dX12_town_116 rfl rfl e_v2_28 (by decide) rfl ?_
              refine aw_goto (tgt := 50) dX12_town_119 (by decide) ?_
              exact aw_le' (hL50 (v2_28, D_27) (Ok.dn h :)) ⟨rfl, ⟨rfl, trivial⟩⟩
          · replace h := Ok.iffn h c
            refine aw_iconst (n := 91) (v := 5) dX12_town_90 rfl (by decide) ?_
            refine aw_goto (tgt := 115) dX12_town_91 (by decide) ?_
            obtain ⟨g_29, h⟩ := Ok.gd h
            obtain ⟨D_30, e_D_30, h⟩ := Ok.let_ h
            refine aw_iastore (n := 116) hG.1 (sF_91 hS) (aIn_in g_29) e_D_30 dX12_town_115 rfl ?_
            obtain ⟨v2_31, e_v2_31, h⟩ := Ok.let_ h
            refine aw_iinc (n := 119) (al' := [some (.ref 88), none, some (.int v2_31)]) dX12_town_116 rfl rfl e_v2_31 (by decide) rfl ?_
            refine aw_goto (tgt := 50) dX12_town_119 (by decide) ?_
            exact aw_le' (hL50 (v2_31, D_30) (Ok.dn h :)) ⟨rfl, ⟨rfl, trivial⟩⟩
        · replace h := Ok.iff h c
          refine aw_iconst (n := 81) (v := 0) dX12_town_80 rfl (by decide) ?_
          refine aw_goto (tgt := 115) dX12_town_81 (by decide) ?_
          obtain ⟨g_32, h⟩ := Ok.gd h
          obtain ⟨D_33, e_D_33, h⟩ := Ok.let_ h
          refine aw_iastore (n := 116) hG.1 (sF_91 hS) (aIn_in g_32) e_D_33 dX12_town_115 rfl ?_
          obtain ⟨v2_34, e_v2_34, h⟩ := Ok.let_ h
          refine aw_iinc (n := 119) (al' := [some (.ref 88), none, some (.int v2_34)]) dX12_town_116 rfl rfl e_v2_34 (by decide) rfl ?_
          refine aw_goto (tgt := 50) dX12_town_119 (by decide) ?_
          exact aw_le' (hL50 (v2_34, D_33) (Ok.dn h :)) ⟨rfl, ⟨rfl, trivial⟩⟩
      · replace h := Ok.iff h c
        refine aw_bipush (n := 71) (v := 6) dX12_town_69 rfl (by decide) ?_
        refine aw_goto (tgt := 115) dX12_town_71 (by decide) ?_
        obtain ⟨g_35, h⟩ := Ok.gd h
        obtain ⟨D_36, e_D_36, h⟩ := Ok.let_ h
        refine aw_iastore (n := 116) hG.1 (sF_91 hS) (aIn_in g_35) e_D_36 dX12_town_115 rfl ?_
        obtain ⟨v2_37, e_v2_37, h⟩ := Ok.let_ h
        refine aw_iinc (n := 119) (al' := [some (.ref 88), none, some (.int v2_37)]) dX12_town_116 rfl rfl e_v2_37 (by decide) rfl ?_
        refine aw_goto (tgt := 50) dX12_town_119 (by decide) ?_
        exact aw_le' (hL50 (v2_37, D_36) (Ok.dn h :)) ⟨rfl, ⟨rfl, trivial⟩⟩
  refine aw_aload_n (n := 1) (i := 0) dX12_town_0 rfl rfl rfl ?_
  refine aw_iconst (n := 2) (v := 0) dX12_town_1 rfl (by decide) ?_
  obtain ⟨D_1, e_D_1, h⟩ := Ok.let_ h
  refine aw_putI (n := 5) (j := 2) hG.1 fl_RX12_157 (sF_88 hS) rfl e_D_1 dX12_town_2 rfl ?_
  refine aw_iload_n (n := 6) (i := 1) dX12_town_5 rfl rfl rfl ?_
  refine aw_if_lt (n := 9) (tgt := 17) dX12_town_6 rfl (by decide) (fun c => ?_) (fun c => ?_)
  · replace h := Ok.ift h c
    refine aw_aload_n (n := 18) (i := 0) dX12_town_17 rfl rfl rfl ?_
    refine aw_iconst (n := 19) (v := 1) dX12_town_18 rfl (by decide) ?_
    refine aw_cVi (M := M_X12_town) (n := 22) (As := [.int 1]) (rest := []) hG.1 lk_RX12_290 rfl rfl (sF_88 hS) (c_X12_fail hG hS (h := Ok.bi h)) (by decide) (Nat.le_of_ble_eq_true rfl) (by decide) (by decide) dX12_town_19 rfl (fun y_2 D_3 h => ?_)
    exact aw_iret rfl (by decide) (by decide) dX12_town_22 ⟨_, rfl, rfl, (Ok.dn h :)⟩
  · replace h := Ok.iff h c
    refine aw_iload_n (n := 10) (i := 1) dX12_town_9 rfl rfl rfl ?_
    refine aw_aload_n (n := 11) (i := 0) dX12_town_10 rfl rfl rfl ?_
    refine aw_getI (n := 14) (j := 18) hG.1 fl_RX12_164 (sF_88 hS) rfl dX12_town_11 rfl ?_
    refine aw_icmp_le (n := 17) (tgt := 23) dX12_town_14 rfl (by decide) (fun c => ?_) (fun c => ?_)
    · replace h := Ok.ift h c
      refine aw_aload_n (n := 24) (i := 0) dX12_town_23 rfl rfl rfl ?_
      refine aw_iconst (n := 25) (v := 0) dX12_town_24 rfl (by decide) ?_
      obtain ⟨D_4, e_D_4, h⟩ := Ok.let_ h
      refine aw_putI (n := 28) (j := 18) hG.1 fl_RX12_164 (sF_88 hS) rfl e_D_4 dX12_town_25 rfl ?_
      refine aw_aload_n (n := 29) (i := 0) dX12_town_28 rfl rfl rfl ?_
      refine aw_iload_n (n := 30) (i := 1) dX12_town_29 rfl rfl rfl ?_
      obtain ⟨D_5, e_D_5, h⟩ := Ok.let_ h
      refine aw_putI (n := 33) (j := 20) hG.1 fl_RX12_167 (sF_88 hS) rfl e_D_5 dX12_town_30 rfl ?_
      refine aw_aload_n (n := 34) (i := 0) dX12_town_33 rfl rfl rfl ?_
      refine aw_iconst (n := 35) (v := 0) dX12_town_34 rfl (by decide) ?_
      obtain ⟨D_6, e_D_6, h⟩ := Ok.let_ h
      refine aw_putI (n := 38) (j := 19) hG.1 fl_RX12_170 (sF_88 hS) rfl e_D_6 dX12_town_35 rfl ?_
      refine aw_aload_n (n := 39) (i := 0) dX12_town_38 rfl rfl rfl ?_
      refine aw_iconst (n := 40) (v := 0) dX12_town_39 rfl (by decide) ?_
      obtain ⟨D_7, e_D_7, h⟩ := Ok.let_ h
      refine aw_putI (n := 43) (j := 25) hG.1 fl_RX12_203 (sF_88 hS) rfl e_D_7 dX12_town_40 rfl ?_
      refine aw_aload_n (n := 44) (i := 0) dX12_town_43 rfl rfl rfl ?_
      refine aw_iconst (n := 45) (v := (-1)) dX12_town_44 rfl (by decide) ?_
      obtain ⟨D_8, e_D_8, h⟩ := Ok.let_ h
      refine aw_putI (n := 48) (j := 27) hG.1 fl_RX12_72 (sF_88 hS) rfl e_D_8 dX12_town_45 rfl ?_
      refine aw_iconst (n := 49) (v := 0) dX12_town_48 rfl (by decide) ?_
      refine aw_istore_n (n := 50) (i := 2) (al' := [some (.ref 88), some (.int v1), some (.int 0)]) dX12_town_49 rfl rfl rfl (by decide) rfl ?_
      exact aw_le' (hJ_50 0 D_8 h) ⟨rfl, ⟨rfl, trivial⟩⟩
    · replace h := Ok.iff h c
      refine aw_aload_n (n := 18) (i := 0) dX12_town_17 rfl rfl rfl ?_
      refine aw_iconst (n := 19) (v := 1) dX12_town_18 rfl (by decide) ?_
      refine aw_cVi (M := M_X12_town) (n := 22) (As := [.int 1]) (rest := []) hG.1 lk_RX12_290 rfl rfl (sF_88 hS) (c_X12_fail hG hS (h := Ok.bi h)) (by decide) (Nat.le_of_ble_eq_true rfl) (by decide) (by decide) dX12_town_19 rfl (fun y_38 D_39 h => ?_)
      exact aw_iret rfl (by decide) (by decide) dX12_town_22 ⟨_, rfl, rfl, (Ok.dn h :)⟩
theorem dX12_fault_0 : decode cX12_fault 0 = .ok (.aload_n 0, 1) := by decide +kernel
theorem dX12_fault_1 : decode cX12_fault 1 = .ok (.iconst 0, 1) := by decide +kernel
theorem dX12_fault_2 : decode cX12_fault 2 = .ok (.putfield 157, 3) := by decide +kernel
theorem dX12_fault_5 : decode cX12_fault 5 = .ok (.aload_n 0, 1) := by decide +kernel
theorem dX12_fault_6 : decode cX12_fault 6 = .ok (.getfield 72, 3) := by decide +kernel
theorem dX12_fault_9 : decode cX12_fault 9 = .ok (.ireturn, 1) := by decide +kernel
def f_X12_fault (D : aD) : Option (Int32 × aD) :=
  aLet (pI D 88 2 0) (fun D_1 => some (gI D_1 88 27, D_1))
set_option maxRecDepth 100000 in
set_option maxHeartbeats 800000 in
theorem c_X12_fault {G : aG} (hG : gOK G) {shp : List aSh} (hS : aShp shp) {fr : Option Nat} {D : aD} {K : Int32 → aD → Prop} (h : Ok2 (f_X12_fault D) K) : AC G (aRm 1 0 0) M_X12_fault [.ref 88] fr shp D (aQi shp K) := by
  replace h := Ok2.ok h
  unfold f_X12_fault at h
  refine AC.of (al := [some (.ref 88)]) (r := 0) (by decide) (Nat.le_of_ble_eq_true rfl) rfl ?_
  refine aw_aload_n (n := 1) (i := 0) dX12_fault_0 rfl rfl rfl ?_
  refine aw_iconst (n := 2) (v := 0) dX12_fault_1 rfl (by decide) ?_
  obtain ⟨D_1, e_D_1, h⟩ := Ok.let_ h
  refine aw_putI (n := 5) (j := 2) hG.1 fl_RX12_157 (sF_88 hS) rfl e_D_1 dX12_fault_2 rfl ?_
  refine aw_aload_n (n := 6) (i := 0) dX12_fault_5 rfl rfl rfl ?_
  refine aw_getI (n := 9) (j := 27) hG.1 fl_RX12_72 (sF_88 hS) rfl dX12_fault_6 rfl ?_
  exact aw_iret rfl (by decide) (by decide) dX12_fault_9 ⟨_, rfl, rfl, (Ok.dn h :)⟩
theorem dX12_count_0 : decode cX12_count 0 = .ok (.aload_n 0, 1) := by decide +kernel
theorem dX12_count_1 : decode cX12_count 1 = .ok (.iconst 0, 1) := by decide +kernel
theorem dX12_count_2 : decode cX12_count 2 = .ok (.putfield 157, 3) := by decide +kernel
theorem dX12_count_5 : decode cX12_count 5 = .ok (.iload_n 1, 1) := by decide +kernel
theorem dX12_count_6 : decode cX12_count 6 = .ok (.iconst 0, 1) := by decide +kernel
theorem dX12_count_7 : decode cX12_count 7 = .ok (.bipush 9, 2) := by decide +kernel
theorem dX12_count_9 : decode cX12_count 9 = .ok (.invokestatic 160, 3) := by decide +kernel
theorem dX12_count_12 : decode cX12_count 12 = .ok (.ifCond .eq 10, 3) := by decide +kernel
theorem dX12_count_15 : decode cX12_count 15 = .ok (.aload_n 0, 1) := by decide +kernel
theorem dX12_count_16 : decode cX12_count 16 = .ok (.getfield 27, 3) := by decide +kernel
theorem dX12_count_19 : decode cX12_count 19 = .ok (.iload_n 1, 1) := by decide +kernel
theorem dX12_count_20 : decode cX12_count 20 = .ok (.iaload, 1) := by decide +kernel
theorem dX12_count_21 : decode cX12_count 21 = .ok (.ireturn, 1) := by decide +kernel
theorem dX12_count_22 : decode cX12_count 22 = .ok (.iload_n 1, 1) := by decide +kernel
theorem dX12_count_23 : decode cX12_count 23 = .ok (.bipush 20, 2) := by decide +kernel
theorem dX12_count_25 : decode cX12_count 25 = .ok (.bipush 24, 2) := by decide +kernel
theorem dX12_count_27 : decode cX12_count 27 = .ok (.invokestatic 160, 3) := by decide +kernel
theorem dX12_count_30 : decode cX12_count 30 = .ok (.ifCond .eq 13, 3) := by decide +kernel
theorem dX12_count_33 : decode cX12_count 33 = .ok (.aload_n 0, 1) := by decide +kernel
theorem dX12_count_34 : decode cX12_count 34 = .ok (.getfield 27, 3) := by decide +kernel
theorem dX12_count_37 : decode cX12_count 37 = .ok (.iload_n 1, 1) := by decide +kernel
theorem dX12_count_38 : decode cX12_count 38 = .ok (.bipush 10, 2) := by decide +kernel
theorem dX12_count_40 : decode cX12_count 40 = .ok (.isub, 1) := by decide +kernel
theorem dX12_count_41 : decode cX12_count 41 = .ok (.iaload, 1) := by decide +kernel
theorem dX12_count_42 : decode cX12_count 42 = .ok (.ireturn, 1) := by decide +kernel
theorem dX12_count_43 : decode cX12_count 43 = .ok (.iload_n 1, 1) := by decide +kernel
theorem dX12_count_44 : decode cX12_count 44 = .ok (.tableswitch 74 10 16 #[44, 49, 54, 59, 64, 64, 64], 44) := by decide +kernel
theorem dX12_count_88 : decode cX12_count 88 = .ok (.aload_n 0, 1) := by decide +kernel
theorem dX12_count_89 : decode cX12_count 89 = .ok (.getfield 82, 3) := by decide +kernel
theorem dX12_count_92 : decode cX12_count 92 = .ok (.ireturn, 1) := by decide +kernel
theorem dX12_count_93 : decode cX12_count 93 = .ok (.aload_n 0, 1) := by decide +kernel
theorem dX12_count_94 : decode cX12_count 94 = .ok (.getfield 306, 3) := by decide +kernel
theorem dX12_count_97 : decode cX12_count 97 = .ok (.ireturn, 1) := by decide +kernel
theorem dX12_count_98 : decode cX12_count 98 = .ok (.aload_n 0, 1) := by decide +kernel
theorem dX12_count_99 : decode cX12_count 99 = .ok (.getfield 309, 3) := by decide +kernel
theorem dX12_count_102 : decode cX12_count 102 = .ok (.ireturn, 1) := by decide +kernel
theorem dX12_count_103 : decode cX12_count 103 = .ok (.aload_n 0, 1) := by decide +kernel
theorem dX12_count_104 : decode cX12_count 104 = .ok (.getfield 164, 3) := by decide +kernel
theorem dX12_count_107 : decode cX12_count 107 = .ok (.ireturn, 1) := by decide +kernel
theorem dX12_count_108 : decode cX12_count 108 = .ok (.aload_n 0, 1) := by decide +kernel
theorem dX12_count_109 : decode cX12_count 109 = .ok (.getfield 66, 3) := by decide +kernel
theorem dX12_count_112 : decode cX12_count 112 = .ok (.iload_n 1, 1) := by decide +kernel
theorem dX12_count_113 : decode cX12_count 113 = .ok (.bipush 14, 2) := by decide +kernel
theorem dX12_count_115 : decode cX12_count 115 = .ok (.isub, 1) := by decide +kernel
theorem dX12_count_116 : decode cX12_count 116 = .ok (.iaload, 1) := by decide +kernel
theorem dX12_count_117 : decode cX12_count 117 = .ok (.ireturn, 1) := by decide +kernel
theorem dX12_count_118 : decode cX12_count 118 = .ok (.aload_n 0, 1) := by decide +kernel
theorem dX12_count_119 : decode cX12_count 119 = .ok (.iconst 1, 1) := by decide +kernel
theorem dX12_count_120 : decode cX12_count 120 = .ok (.invokevirtual 290, 3) := by decide +kernel
theorem dX12_count_123 : decode cX12_count 123 = .ok (.ireturn, 1) := by decide +kernel
def f_X12_count (v1 : Int32) (D : aD) : Option (Int32 × aD) :=
  aLet (pI D 88 2 0) (fun D_1 => aBi (f_X12_isIn v1 0 9 D_1) (fun y_2 D_3 => if y_2 = 0 then (aBi (f_X12_isIn v1 20 24 D_3) (fun y_4 D_5 => if y_4 = 0 then (if v1 = 10 then (some (gI D_5 88 31, D_5)) else (if v1 = 11 then (some (gI D_5 88 32, D_5)) else (if v1 = 12 then (some (gI D_5 88 33, D_5)) else (if v1 = 13 then (some (gI D_5 88 18, D_5)) else (if v1 = 14 then (aGd (aIn (v1 - 14) 3) (some (gI D_5 104 (v1 - 14).toNatClampNeg, D_5))) else (if v1 = 15 then (aGd (aIn (v1 - 14) 3) (some (gI D_5 104 (v1 - 14).toNatClampNeg, D_5))) else (if v1 = 16 then (aGd (aIn (v1 - 14) 3) (some (gI D_5 104 (v1 - 14).toNatClampNeg, D_5))) else (aBi (f_X12_fail 1 D_5) (fun y_9 D_10 => some (y_9, D_10)))))))))) else (aGd (aIn (v1 - 10) 32) (some (gI D_5 91 (v1 - 10).toNatClampNeg, D_5))))) else (aGd (aIn v1 32) (some (gI D_3 91 v1.toNatClampNeg, D_3)))))
set_option maxRecDepth 100000 in
set_option maxHeartbeats 800000 in
theorem c_X12_count {G : aG} (hG : gOK G) {shp : List aSh} (hS : aShp shp) {fr : Option Nat} {v1 : Int32} {D : aD} {K : Int32 → aD → Prop} (h : Ok2 (f_X12_count v1 D) K) : AC G (aRm 2 0 0) M_X12_count [.ref 88, .int v1] fr shp D (aQi shp K) := by
  replace h := Ok2.ok h
  unfold f_X12_count at h
  refine AC.of (al := [some (.ref 88), some (.int v1)]) (r := 0) (by decide) (Nat.le_of_ble_eq_true rfl) rfl ?_
  refine aw_aload_n (n := 1) (i := 0) dX12_count_0 rfl rfl rfl ?_
  refine aw_iconst (n := 2) (v := 0) dX12_count_1 rfl (by decide) ?_
  obtain ⟨D_1, e_D_1, h⟩ := Ok.let_ h
  refine aw_putI (n := 5) (j := 2) hG.1 fl_RX12_157 (sF_88 hS) rfl e_D_1 dX12_count_2 rfl ?_
  refine aw_iload_n (n := 6) (i := 1) dX12_count_5 rfl rfl rfl ?_
  refine aw_iconst (n := 7) (v := 0) dX12_count_6 rfl (by decide) ?_
  refine aw_bipush (n := 9) (v := 9) dX12_count_7 rfl (by decide) ?_
  refine aw_cSi (M := M_X12_count) (n := 12) (As := [.int v1, .int 0, .int 9]) (rest := []) lk_RX12_160 rfl rfl (c_X12_isIn hG hS (h := Ok.bi h)) (by decide) (Nat.le_of_ble_eq_true rfl) (by decide) (by decide) dX12_count_9 rfl (fun y_2 D_3 h => ?_)
  refine aw_if_eq (n := 15) (tgt := 22) dX12_count_12 rfl (by decide) (fun c => ?_) (fun c => ?_)
  · replace h := Ok.ift h c
    refine aw_iload_n (n := 23) (i := 1) dX12_count_22 rfl rfl rfl ?_
    refine aw_bipush (n := 25) (v := 20) dX12_count_23 rfl (by decide) ?_
    refine aw_bipush (n := 27) (v := 24) dX12_count_25 rfl (by decide) ?_
    refine aw_cSi (M := M_X12_count) (n := 30) (As := [.int v1, .int 20, .int 24]) (rest := []) lk_RX12_160 rfl rfl (c_X12_isIn hG hS (h := Ok.bi h)) (by decide) (Nat.le_of_ble_eq_true rfl) (by decide) (by decide) dX12_count_27 rfl (fun y_4 D_5 h => ?_)
    refine aw_if_eq (n := 33) (tgt := 43) dX12_count_30 rfl (by decide) (fun c => ?_) (fun c => ?_)
    · replace h := Ok.ift h c
      refine aw_iload_n (n := 44) (i := 1) dX12_count_43 rfl rfl rfl ?_
      by_cases c0 : v1 = 10
      · replace h := Ok.ift h c0
        refine aw_tableIn (tgt := 88) dX12_count_44 (by rw [c0]; decide) (by rw [c0]; decide) (off := 44) (by rw [c0]; rfl) (by decide) ?_
        refine aw_aload_n (n := 89) (i := 0) dX12_count_88 rfl rfl rfl ?_
        refine aw_getI (n := 92) (j := 31) hG.1 fl_RX12_82 (sF_88 hS) rfl dX12_count_89 rfl ?_
        exact aw_iret rfl (by decide) (by decide) dX12_count_92 ⟨_, rfl, rfl, (Ok.dn h :)⟩
      replace h := Ok.iff h c0
      by_cases c1 : v1 = 11
      · replace h := Ok.ift h c1
        refine aw_tableIn (tgt := 93) dX12_count_44 (by rw [c1]; decide) (by rw [c1]; decide) (off := 49) (by rw [c1]; rfl) (by decide) ?_
        refine aw_aload_n (n := 94) (i := 0) dX12_count_93 rfl rfl rfl ?_
        refine aw_getI (n := 97) (j := 32) hG.1 fl_RX12_306 (sF_88 hS) rfl dX12_count_94 rfl ?_
        exact aw_iret rfl (by decide) (by decide) dX12_count_97 ⟨_, rfl, rfl, (Ok.dn h :)⟩
      replace h := Ok.iff h c1
      by_cases c2 : v1 = 12
      · replace h := Ok.ift h c2
        refine aw_tableIn (tgt := 98) dX12_count_44 (by rw [c2]; decide) (by rw [c2]; decide) (off := 54) (by rw [c2]; rfl) (by decide) ?_
        refine aw_aload_n (n := 99) (i := 0) dX12_count_98 rfl rfl rfl ?_
        refine aw_getI (n := 102) (j := 33) hG.1 fl_RX12_309 (sF_88 hS) rfl dX12_count_99 rfl ?_
        exact aw_iret rfl (by decide) (by decide) dX12_count_102 ⟨_, rfl, rfl, (Ok.dn h :)⟩
      replace h := Ok.iff h c2
      by_cases c3 : v1 = 13
      · replace h := Ok.ift h c3
        refine aw_tableIn (tgt := 103) dX12_count_44 (by rw [c3]; decide) (by rw [c3]; decide) (off := 59) (by rw [c3]; rfl) (by decide) ?_
        refine aw_aload_n (n := 104) (i := 0) dX12_count_103 rfl rfl rfl ?_
        refine aw_getI (n := 107) (j := 18) hG.1 fl_RX12_164 (sF_88 hS) rfl dX12_count_104 rfl ?_
        exact aw_iret rfl (by decide) (by decide) dX12_count_107 ⟨_, rfl, rfl, (Ok.dn h :)⟩
      replace h := Ok.iff h c3
      by_cases c4 : v1 = 14
      · replace h := Ok.ift h c4
        refine aw_tableIn (tgt := 108) dX12_count_44 (by rw [c4]; decide) (by rw [c4]; decide) (off := 64) (by rw [c4]; rfl) (by decide) ?_
        refine aw_aload_n (n := 109) (i := 0) dX12_count_108 rfl rfl rfl ?_
        refine aw_getR (n := 112) (j := 16) (r := 104) hG.1 fl_RX12_66 (sF_88 hS) rfl dX12_count_109 rfl ?_
        refine aw_iload_n (n := 113) (i := 1) dX12_count_112 rfl rfl rfl ?_
        refine aw_bipush (n := 115) (v := 14) dX12_count_113 rfl (by decide) ?_
        refine aw_isub (n := 116) dX12_count_115 rfl ?_
        obtain ⟨g_6, h⟩ := Ok.gd h
        refine aw_iaload (n := 117) hG.1 (sF_104 hS) (aIn_in g_6) dX12_count_116 rfl ?_
        exact aw_iret rfl (by decide) (by decide) dX12_count_117 ⟨_, rfl, rfl, (Ok.dn h :)⟩
      replace h := Ok.iff h c4
      by_cases c5 : v1 = 15
      · replace h := Ok.ift h c5
        refine aw_tableIn (tgt := 108) dX12_count_44 (by rw [c5]; decide) (by rw [c5]; decide) (off := 64) (by rw [c5]; rfl) (by decide) ?_
        refine aw_aload_n (n := 109) (i := 0) dX12_count_108 rfl rfl rfl ?_
        refine aw_getR (n := 112) (j := 16) (r := 104) hG.1 fl_RX12_66 (sF_88 hS) rfl dX12_count_109 rfl ?_
        refine aw_iload_n (n := 113) (i := 1) dX12_count_112 rfl rfl rfl ?_
        refine aw_bipush (n := 115) (v := 14) dX12_count_113 rfl (by decide) ?_
        refine aw_isub (n := 116) dX12_count_115 rfl ?_
        obtain ⟨g_7, h⟩ := Ok.gd h
        refine aw_iaload (n := 117) hG.1 (sF_104 hS) (aIn_in g_7) dX12_count_116 rfl ?_
        exact aw_iret rfl (by decide) (by decide) dX12_count_117 ⟨_, rfl, rfl, (Ok.dn h :)⟩
      replace h := Ok.iff h c5
      by_cases c6 : v1 = 16
      · replace h := Ok.ift h c6
        refine aw_tableIn (tgt := 108) dX12_count_44 (by rw [c6]; decide) (by rw [c6]; decide) (off := 64) (by rw [c6]; rfl) (by decide) ?_
        refine aw_aload_n (n := 109) (i := 0) dX12_count_108 rfl rfl rfl ?_
        refine aw_getR (n := 112) (j := 16) (r := 104) hG.1 fl_RX12_66 (sF_88 hS) rfl dX12_count_109 rfl ?_
        refine aw_iload_n (n := 113) (i := 1) dX12_count_112 rfl rfl rfl ?_
        refine aw_bipush (n := 115) (v := 14) dX12_count_113 rfl (by decide) ?_
        refine aw_isub (n := 116) dX12_count_115 rfl ?_
        obtain ⟨g_8, h⟩ := Ok.gd h
        refine aw_iaload (n := 117) hG.1 (sF_104 hS) (aIn_in g_8) dX12_count_116 rfl ?_
        exact aw_iret rfl (by decide) (by decide) dX12_count_117 ⟨_, rfl, rfl, (Ok.dn h :)⟩
      replace h := Ok.iff h c6
      refine aw_tableOut (tgt := 118) dX12_count_44 (sw_out (lo := 10) (hi := 16) (fun n h1 h2 => ?_)) (by decide) ?_
      · rcases (by omega : n = 10 ∨ n = 11 ∨ n = 12 ∨ n = 13 ∨ n = 14 ∨ n = 15 ∨ n = 16) with rfl | rfl | rfl | rfl | rfl | rfl | rfl
        · exact sw_at (by decide) c0
        · exact sw_at (by decide) c1
        · exact sw_at (by decide) c2
        · exact sw_at (by decide) c3
        · exact sw_at (by decide) c4
        · exact sw_at (by decide) c5
        · exact sw_at (by decide) c6
      refine aw_aload_n (n := 119) (i := 0) dX12_count_118 rfl rfl rfl ?_
      refine aw_iconst (n := 120) (v := 1) dX12_count_119 rfl (by decide) ?_
      refine aw_cVi (M := M_X12_count) (n := 123) (As := [.int 1]) (rest := []) hG.1 lk_RX12_290 rfl rfl (sF_88 hS) (c_X12_fail hG hS (h := Ok.bi h)) (by decide) (Nat.le_of_ble_eq_true rfl) (by decide) (by decide) dX12_count_120 rfl (fun y_9 D_10 h => ?_)
      exact aw_iret rfl (by decide) (by decide) dX12_count_123 ⟨_, rfl, rfl, (Ok.dn h :)⟩
    · replace h := Ok.iff h c
      refine aw_aload_n (n := 34) (i := 0) dX12_count_33 rfl rfl rfl ?_
      refine aw_getR (n := 37) (j := 3) (r := 91) hG.1 fl_RX12_27 (sF_88 hS) rfl dX12_count_34 rfl ?_
      refine aw_iload_n (n := 38) (i := 1) dX12_count_37 rfl rfl rfl ?_
      refine aw_bipush (n := 40) (v := 10) dX12_count_38 rfl (by decide) ?_
      refine aw_isub (n := 41) dX12_count_40 rfl ?_
      obtain ⟨g_11, h⟩ := Ok.gd h
      refine aw_iaload (n := 42) hG.1 (sF_91 hS) (aIn_in g_11) dX12_count_41 rfl ?_
      exact aw_iret rfl (by decide) (by decide) dX12_count_42 ⟨_, rfl, rfl, (Ok.dn h :)⟩
  · replace h := Ok.iff h c
    refine aw_aload_n (n := 16) (i := 0) dX12_count_15 rfl rfl rfl ?_
    refine aw_getR (n := 19) (j := 3) (r := 91) hG.1 fl_RX12_27 (sF_88 hS) rfl dX12_count_16 rfl ?_
    refine aw_iload_n (n := 20) (i := 1) dX12_count_19 rfl rfl rfl ?_
    obtain ⟨g_12, h⟩ := Ok.gd h
    refine aw_iaload (n := 21) hG.1 (sF_91 hS) (aIn_in g_12) dX12_count_20 rfl ?_
    exact aw_iret rfl (by decide) (by decide) dX12_count_21 ⟨_, rfl, rfl, (Ok.dn h :)⟩
theorem dX12_plant_0 : decode cX12_plant 0 = .ok (.aload_n 0, 1) := by decide +kernel
theorem dX12_plant_1 : decode cX12_plant 1 = .ok (.iconst 0, 1) := by decide +kernel
theorem dX12_plant_2 : decode cX12_plant 2 = .ok (.putfield 157, 3) := by decide +kernel
theorem dX12_plant_5 : decode cX12_plant 5 = .ok (.aload_n 0, 1) := by decide +kernel
theorem dX12_plant_6 : decode cX12_plant 6 = .ok (.iload_n 1, 1) := by decide +kernel
theorem dX12_plant_7 : decode cX12_plant 7 = .ok (.invokevirtual 316, 3) := by decide +kernel
theorem dX12_plant_10 : decode cX12_plant 10 = .ok (.ifCond .ne 9, 3) := by decide +kernel
theorem dX12_plant_13 : decode cX12_plant 13 = .ok (.aload_n 0, 1) := by decide +kernel
theorem dX12_plant_14 : decode cX12_plant 14 = .ok (.iconst 1, 1) := by decide +kernel
theorem dX12_plant_15 : decode cX12_plant 15 = .ok (.invokevirtual 290, 3) := by decide +kernel
theorem dX12_plant_18 : decode cX12_plant 18 = .ok (.ireturn, 1) := by decide +kernel
theorem dX12_plant_19 : decode cX12_plant 19 = .ok (.iload_n 2, 1) := by decide +kernel
theorem dX12_plant_20 : decode cX12_plant 20 = .ok (.ifCond .ne 12, 3) := by decide +kernel
theorem dX12_plant_23 : decode cX12_plant 23 = .ok (.aload_n 0, 1) := by decide +kernel
theorem dX12_plant_24 : decode cX12_plant 24 = .ok (.getfield 51, 3) := by decide +kernel
theorem dX12_plant_27 : decode cX12_plant 27 = .ok (.iload_n 1, 1) := by decide +kernel
theorem dX12_plant_28 : decode cX12_plant 28 = .ok (.iaload, 1) := by decide +kernel
theorem dX12_plant_29 : decode cX12_plant 29 = .ok (.goto 50, 3) := by decide +kernel
theorem dX12_plant_32 : decode cX12_plant 32 = .ok (.iload_n 2, 1) := by decide +kernel
theorem dX12_plant_33 : decode cX12_plant 33 = .ok (.iconst 1, 1) := by decide +kernel
theorem dX12_plant_34 : decode cX12_plant 34 = .ok (.if_icmp .ne 12, 3) := by decide +kernel
theorem dX12_plant_37 : decode cX12_plant 37 = .ok (.aload_n 0, 1) := by decide +kernel
theorem dX12_plant_38 : decode cX12_plant 38 = .ok (.getfield 54, 3) := by decide +kernel
theorem dX12_plant_41 : decode cX12_plant 41 = .ok (.iload_n 1, 1) := by decide +kernel
theorem dX12_plant_42 : decode cX12_plant 42 = .ok (.iaload, 1) := by decide +kernel
theorem dX12_plant_43 : decode cX12_plant 43 = .ok (.goto 36, 3) := by decide +kernel
theorem dX12_plant_46 : decode cX12_plant 46 = .ok (.iload_n 2, 1) := by decide +kernel
theorem dX12_plant_47 : decode cX12_plant 47 = .ok (.iconst 2, 1) := by decide +kernel
theorem dX12_plant_48 : decode cX12_plant 48 = .ok (.if_icmp .ne 12, 3) := by decide +kernel
theorem dX12_plant_51 : decode cX12_plant 51 = .ok (.aload_n 0, 1) := by decide +kernel
theorem dX12_plant_52 : decode cX12_plant 52 = .ok (.getfield 57, 3) := by decide +kernel
theorem dX12_plant_55 : decode cX12_plant 55 = .ok (.iload_n 1, 1) := by decide +kernel
theorem dX12_plant_56 : decode cX12_plant 56 = .ok (.iaload, 1) := by decide +kernel
theorem dX12_plant_57 : decode cX12_plant 57 = .ok (.goto 22, 3) := by decide +kernel
theorem dX12_plant_60 : decode cX12_plant 60 = .ok (.iload_n 2, 1) := by decide +kernel
theorem dX12_plant_61 : decode cX12_plant 61 = .ok (.iconst 3, 1) := by decide +kernel
theorem dX12_plant_62 : decode cX12_plant 62 = .ok (.if_icmp .ne 12, 3) := by decide +kernel
theorem dX12_plant_65 : decode cX12_plant 65 = .ok (.aload_n 0, 1) := by decide +kernel
theorem dX12_plant_66 : decode cX12_plant 66 = .ok (.getfield 76, 3) := by decide +kernel
theorem dX12_plant_69 : decode cX12_plant 69 = .ok (.iload_n 1, 1) := by decide +kernel
theorem dX12_plant_70 : decode cX12_plant 70 = .ok (.iaload, 1) := by decide +kernel
theorem dX12_plant_71 : decode cX12_plant 71 = .ok (.goto 8, 3) := by decide +kernel
theorem dX12_plant_74 : decode cX12_plant 74 = .ok (.aload_n 0, 1) := by decide +kernel
theorem dX12_plant_75 : decode cX12_plant 75 = .ok (.iconst 1, 1) := by decide +kernel
theorem dX12_plant_76 : decode cX12_plant 76 = .ok (.invokevirtual 290, 3) := by decide +kernel
theorem dX12_plant_79 : decode cX12_plant 79 = .ok (.ireturn, 1) := by decide +kernel
def f_X12_plant (v1 : Int32) (v2 : Int32) (D : aD) : Option (Int32 × aD) :=
  aLet (pI D 88 2 0) (fun D_1 => aBi (f_X12_isPlant v1 D_1) (fun y_2 D_3 => if y_2 ≠ 0 then (if v2 ≠ 0 then (if v2 ≠ 1 then (if v2 ≠ 2 then (if v2 ≠ 3 then (aBi (f_X12_fail 1 D_3) (fun y_4 D_5 => some (y_4, D_5))) else (aGd (aIn v1 13) (some (gI D_3 106 v1.toNatClampNeg, D_3)))) else (aGd (aIn v1 26) (some (gI D_3 101 v1.toNatClampNeg, D_3)))) else (aGd (aIn v1 26) (some (gI D_3 100 v1.toNatClampNeg, D_3)))) else (aGd (aIn v1 26) (some (gI D_3 99 v1.toNatClampNeg, D_3)))) else (aBi (f_X12_fail 1 D_3) (fun y_10 D_11 => some (y_10, D_11)))))
set_option maxRecDepth 100000 in
set_option maxHeartbeats 800000 in
theorem c_X12_plant {G : aG} (hG : gOK G) {shp : List aSh} (hS : aShp shp) {fr : Option Nat} {v1 : Int32} {v2 : Int32} {D : aD} {K : Int32 → aD → Prop} (h : Ok2 (f_X12_plant v1 v2 D) K) : AC G (aRm 3 0 0) M_X12_plant [.ref 88, .int v1, .int v2] fr shp D (aQi shp K) := by
  replace h := Ok2.ok h
  unfold f_X12_plant at h
  refine AC.of (al := [some (.ref 88), some (.int v1), some (.int v2)]) (r := 0) (by decide) (Nat.le_of_ble_eq_true rfl) rfl ?_
  refine aw_aload_n (n := 1) (i := 0) dX12_plant_0 rfl rfl rfl ?_
  refine aw_iconst (n := 2) (v := 0) dX12_plant_1 rfl (by decide) ?_
  obtain ⟨D_1, e_D_1, h⟩ := Ok.let_ h
  refine aw_putI (n := 5) (j := 2) hG.1 fl_RX12_157 (sF_88 hS) rfl e_D_1 dX12_plant_2 rfl ?_
  refine aw_aload_n (n := 6) (i := 0) dX12_plant_5 rfl rfl rfl ?_
  refine aw_iload_n (n := 7) (i := 1) dX12_plant_6 rfl rfl rfl ?_
  refine aw_cVi (M := M_X12_plant) (n := 10) (As := [.int v1]) (rest := []) hG.1 lk_RX12_316 rfl rfl (sF_88 hS) (c_X12_isPlant hG hS (h := Ok.bi h)) (by decide) (Nat.le_of_ble_eq_true rfl) (by decide) (by decide) dX12_plant_7 rfl (fun y_2 D_3 h => ?_)
  refine aw_if_ne (n := 13) (tgt := 19) dX12_plant_10 rfl (by decide) (fun c => ?_) (fun c => ?_)
  · replace h := Ok.ift h c
    refine aw_iload_n (n := 20) (i := 2) dX12_plant_19 rfl rfl rfl ?_
    refine aw_if_ne (n := 23) (tgt := 32) dX12_plant_20 rfl (by decide) (fun c => ?_) (fun c => ?_)
    · replace h := Ok.ift h c
      refine aw_iload_n (n := 33) (i := 2) dX12_plant_32 rfl rfl rfl ?_
      refine aw_iconst (n := 34) (v := 1) dX12_plant_33 rfl (by decide) ?_
      refine aw_icmp_ne (n := 37) (tgt := 46) dX12_plant_34 rfl (by decide) (fun c => ?_) (fun c => ?_)
      · replace h := Ok.ift h c
        refine aw_iload_n (n := 47) (i := 2) dX12_plant_46 rfl rfl rfl ?_
        refine aw_iconst (n := 48) (v := 2) dX12_plant_47 rfl (by decide) ?_
        refine aw_icmp_ne (n := 51) (tgt := 60) dX12_plant_48 rfl (by decide) (fun c => ?_) (fun c => ?_)
        · replace h := Ok.ift h c
          refine aw_iload_n (n := 61) (i := 2) dX12_plant_60 rfl rfl rfl ?_
          refine aw_iconst (n := 62) (v := 3) dX12_plant_61 rfl (by decide) ?_
          refine aw_icmp_ne (n := 65) (tgt := 74) dX12_plant_62 rfl (by decide) (fun c => ?_) (fun c => ?_)
          · replace h := Ok.ift h c
            refine aw_aload_n (n := 75) (i := 0) dX12_plant_74 rfl rfl rfl ?_
            refine aw_iconst (n := 76) (v := 1) dX12_plant_75 rfl (by decide) ?_
            refine aw_cVi (M := M_X12_plant) (n := 79) (As := [.int 1]) (rest := []) hG.1 lk_RX12_290 rfl rfl (sF_88 hS) (c_X12_fail hG hS (h := Ok.bi h)) (by decide) (Nat.le_of_ble_eq_true rfl) (by decide) (by decide) dX12_plant_76 rfl (fun y_4 D_5 h => ?_)
            exact aw_iret rfl (by decide) (by decide) dX12_plant_79 ⟨_, rfl, rfl, (Ok.dn h :)⟩
          · replace h := Ok.iffn h c
            refine aw_aload_n (n := 66) (i := 0) dX12_plant_65 rfl rfl rfl ?_
            refine aw_getR (n := 69) (j := 28) (r := 106) hG.1 fl_RX12_76 (sF_88 hS) rfl dX12_plant_66 rfl ?_
            refine aw_iload_n (n := 70) (i := 1) dX12_plant_69 rfl rfl rfl ?_
            obtain ⟨g_6, h⟩ := Ok.gd h
            refine aw_iaload (n := 71) hG.1 (sF_106 hS) (aIn_in g_6) dX12_plant_70 rfl ?_
            refine aw_goto (tgt := 79) dX12_plant_71 (by decide) ?_
            exact aw_iret rfl (by decide) (by decide) dX12_plant_79 ⟨_, rfl, rfl, (Ok.dn h :)⟩
        · replace h := Ok.iffn h c
          refine aw_aload_n (n := 52) (i := 0) dX12_plant_51 rfl rfl rfl ?_
          refine aw_getR (n := 55) (j := 13) (r := 101) hG.1 fl_RX12_57 (sF_88 hS) rfl dX12_plant_52 rfl ?_
          refine aw_iload_n (n := 56) (i := 1) dX12_plant_55 rfl rfl rfl ?_
          obtain ⟨g_7, h⟩ := Ok.gd h
          refine aw_iaload (n := 57) hG.1 (sF_101 hS) (aIn_in g_7) dX12_plant_56 rfl ?_
          refine aw_goto (tgt := 79) dX12_plant_57 (by decide) ?_
          exact aw_iret rfl (by decide) (by decide) dX12_plant_79 ⟨_, rfl, rfl, (Ok.dn h :)⟩
      · replace h := Ok.iffn h c
        refine aw_aload_n (n := 38) (i := 0) dX12_plant_37 rfl rfl rfl ?_
        refine aw_getR (n := 41) (j := 12) (r := 100) hG.1 fl_RX12_54 (sF_88 hS) rfl dX12_plant_38 rfl ?_
        refine aw_iload_n (n := 42) (i := 1) dX12_plant_41 rfl rfl rfl ?_
        obtain ⟨g_8, h⟩ := Ok.gd h
        refine aw_iaload (n := 43) hG.1 (sF_100 hS) (aIn_in g_8) dX12_plant_42 rfl ?_
        refine aw_goto (tgt := 79) dX12_plant_43 (by decide) ?_
        exact aw_iret rfl (by decide) (by decide) dX12_plant_79 ⟨_, rfl, rfl, (Ok.dn h :)⟩
    · replace h := Ok.iffn h c
      refine aw_aload_n (n := 24) (i := 0) dX12_plant_23 rfl rfl rfl ?_
      refine aw_getR (n := 27) (j := 11) (r := 99) hG.1 fl_RX12_51 (sF_88 hS) rfl dX12_plant_24 rfl ?_
      refine aw_iload_n (n := 28) (i := 1) dX12_plant_27 rfl rfl rfl ?_
      obtain ⟨g_9, h⟩ := Ok.gd h
      refine aw_iaload (n := 29) hG.1 (sF_99 hS) (aIn_in g_9) dX12_plant_28 rfl ?_
      refine aw_goto (tgt := 79) dX12_plant_29 (by decide) ?_
      exact aw_iret rfl (by decide) (by decide) dX12_plant_79 ⟨_, rfl, rfl, (Ok.dn h :)⟩
  · replace h := Ok.iffn h c
    refine aw_aload_n (n := 14) (i := 0) dX12_plant_13 rfl rfl rfl ?_
    refine aw_iconst (n := 15) (v := 1) dX12_plant_14 rfl (by decide) ?_
    refine aw_cVi (M := M_X12_plant) (n := 18) (As := [.int 1]) (rest := []) hG.1 lk_RX12_290 rfl rfl (sF_88 hS) (c_X12_fail hG hS (h := Ok.bi h)) (by decide) (Nat.le_of_ble_eq_true rfl) (by decide) (by decide) dX12_plant_15 rfl (fun y_10 D_11 h => ?_)
    exact aw_iret rfl (by decide) (by decide) dX12_plant_18 ⟨_, rfl, rfl, (Ok.dn h :)⟩
theorem dX12_turn_0 : decode cX12_turn 0 = .ok (.aload_n 0, 1) := by decide +kernel
theorem dX12_turn_1 : decode cX12_turn 1 = .ok (.iconst 0, 1) := by decide +kernel
theorem dX12_turn_2 : decode cX12_turn 2 = .ok (.putfield 157, 3) := by decide +kernel
theorem dX12_turn_5 : decode cX12_turn 5 = .ok (.aload_n 0, 1) := by decide +kernel
theorem dX12_turn_6 : decode cX12_turn 6 = .ok (.iload_n 1, 1) := by decide +kernel
theorem dX12_turn_7 : decode cX12_turn 7 = .ok (.invokevirtual 316, 3) := by decide +kernel
theorem dX12_turn_10 : decode cX12_turn 10 = .ok (.ifCond .ne 9, 3) := by decide +kernel
theorem dX12_turn_13 : decode cX12_turn 13 = .ok (.aload_n 0, 1) := by decide +kernel
theorem dX12_turn_14 : decode cX12_turn 14 = .ok (.iconst 1, 1) := by decide +kernel
theorem dX12_turn_15 : decode cX12_turn 15 = .ok (.invokevirtual 290, 3) := by decide +kernel
theorem dX12_turn_18 : decode cX12_turn 18 = .ok (.ireturn, 1) := by decide +kernel
theorem dX12_turn_19 : decode cX12_turn 19 = .ok (.iload_n 2, 1) := by decide +kernel
theorem dX12_turn_20 : decode cX12_turn 20 = .ok (.iconst 0, 1) := by decide +kernel
theorem dX12_turn_21 : decode cX12_turn 21 = .ok (.iconst 2, 1) := by decide +kernel
theorem dX12_turn_22 : decode cX12_turn 22 = .ok (.invokestatic 160, 3) := by decide +kernel
theorem dX12_turn_25 : decode cX12_turn 25 = .ok (.ifCond .eq 22, 3) := by decide +kernel
theorem dX12_turn_28 : decode cX12_turn 28 = .ok (.iload_n 2, 1) := by decide +kernel
theorem dX12_turn_29 : decode cX12_turn 29 = .ok (.iconst 2, 1) := by decide +kernel
theorem dX12_turn_30 : decode cX12_turn 30 = .ok (.if_icmp .ne 29, 3) := by decide +kernel
theorem dX12_turn_33 : decode cX12_turn 33 = .ok (.aload_n 0, 1) := by decide +kernel
theorem dX12_turn_34 : decode cX12_turn 34 = .ok (.getfield 48, 3) := by decide +kernel
theorem dX12_turn_37 : decode cX12_turn 37 = .ok (.aload_n 0, 1) := by decide +kernel
theorem dX12_turn_38 : decode cX12_turn 38 = .ok (.getfield 51, 3) := by decide +kernel
theorem dX12_turn_41 : decode cX12_turn 41 = .ok (.iload_n 1, 1) := by decide +kernel
theorem dX12_turn_42 : decode cX12_turn 42 = .ok (.iaload, 1) := by decide +kernel
theorem dX12_turn_43 : decode cX12_turn 43 = .ok (.iaload, 1) := by decide +kernel
theorem dX12_turn_44 : decode cX12_turn 44 = .ok (.ifCond .ne 15, 3) := by decide +kernel
theorem dX12_turn_47 : decode cX12_turn 47 = .ok (.aload_n 0, 1) := by decide +kernel
theorem dX12_turn_48 : decode cX12_turn 48 = .ok (.getfield 66, 3) := by decide +kernel
theorem dX12_turn_51 : decode cX12_turn 51 = .ok (.iconst 1, 1) := by decide +kernel
theorem dX12_turn_52 : decode cX12_turn 52 = .ok (.dup2, 1) := by decide +kernel
theorem dX12_turn_53 : decode cX12_turn 53 = .ok (.iaload, 1) := by decide +kernel
theorem dX12_turn_54 : decode cX12_turn 54 = .ok (.iconst 1, 1) := by decide +kernel
theorem dX12_turn_55 : decode cX12_turn 55 = .ok (.iadd, 1) := by decide +kernel
theorem dX12_turn_56 : decode cX12_turn 56 = .ok (.iastore, 1) := by decide +kernel
theorem dX12_turn_57 : decode cX12_turn 57 = .ok (.iconst (-1), 1) := by decide +kernel
theorem dX12_turn_58 : decode cX12_turn 58 = .ok (.ireturn, 1) := by decide +kernel
theorem dX12_turn_59 : decode cX12_turn 59 = .ok (.aload_n 0, 1) := by decide +kernel
theorem dX12_turn_60 : decode cX12_turn 60 = .ok (.getfield 76, 3) := by decide +kernel
theorem dX12_turn_63 : decode cX12_turn 63 = .ok (.iload_n 1, 1) := by decide +kernel
theorem dX12_turn_64 : decode cX12_turn 64 = .ok (.iaload, 1) := by decide +kernel
theorem dX12_turn_65 : decode cX12_turn 65 = .ok (.istore_n 3, 1) := by decide +kernel
theorem dX12_turn_66 : decode cX12_turn 66 = .ok (.aload_n 0, 1) := by decide +kernel
theorem dX12_turn_67 : decode cX12_turn 67 = .ok (.getfield 76, 3) := by decide +kernel
theorem dX12_turn_70 : decode cX12_turn 70 = .ok (.iload_n 1, 1) := by decide +kernel
theorem dX12_turn_71 : decode cX12_turn 71 = .ok (.iload_n 2, 1) := by decide +kernel
theorem dX12_turn_72 : decode cX12_turn 72 = .ok (.iastore, 1) := by decide +kernel
theorem dX12_turn_73 : decode cX12_turn 73 = .ok (.iload_n 3, 1) := by decide +kernel
theorem dX12_turn_74 : decode cX12_turn 74 = .ok (.ireturn, 1) := by decide +kernel
def J_X12_turn_47 (D : aD) : Option (Int32 × aD) :=
  aGd (aIn 1 3) (aGd (aIn 1 3) (aLet (pI D 104 (1 : Int32).toNatClampNeg ((gI D 104 (1 : Int32).toNatClampNeg) + 1)) (fun D_8 => some ((-1), D_8))))
def J_X12_turn_59 (v1 : Int32) (v2 : Int32) (D : aD) : Option (Int32 × aD) :=
  aGd (aIn v1 13) (aLet (gI D 106 v1.toNatClampNeg) (fun v3_10 => aGd (aIn v1 13) (aLet (pI D 106 v1.toNatClampNeg v2) (fun D_12 => some (v3_10, D_12)))))
def f_X12_turn (v1 : Int32) (v2 : Int32) (D : aD) : Option (Int32 × aD) :=
  aLet (pI D 88 2 0) (fun D_1 => aBi (f_X12_isPlant v1 D_1) (fun y_2 D_3 => if y_2 ≠ 0 then (aBi (f_X12_isIn v2 0 2 D_3) (fun y_4 D_5 => if y_4 = 0 then (J_X12_turn_47 D_5) else (if v2 ≠ 2 then (J_X12_turn_59 v1 v2 D_5) else (aGd (aIn v1 26) (aGd (aIn (gI D_5 99 v1.toNatClampNeg) 12) (if gI D_5 98 (gI D_5 99 v1.toNatClampNeg).toNatClampNeg ≠ 0 then (J_X12_turn_59 v1 v2 D_5) else (J_X12_turn_47 D_5))))))) else (aBi (f_X12_fail 1 D_3) (fun y_15 D_16 => some (y_15, D_16)))))
set_option maxRecDepth 100000 in
set_option maxHeartbeats 800000 in
theorem c_X12_turn {G : aG} (hG : gOK G) {shp : List aSh} (hS : aShp shp) {fr : Option Nat} {v1 : Int32} {v2 : Int32} {D : aD} {K : Int32 → aD → Prop} (h : Ok2 (f_X12_turn v1 v2 D) K) : AC G (aRm 3 0 0) M_X12_turn [.ref 88, .int v1, .int v2] fr shp D (aQi shp K) := by
  replace h := Ok2.ok h
  unfold f_X12_turn at h
  refine AC.of (al := [some (.ref 88), some (.int v1), some (.int v2), none]) (r := 1) (by decide) (Nat.le_of_ble_eq_true rfl) rfl ?_
  have hJ_47 : ∀ (D : aD), Ok (J_X12_turn_47 D) (fun r => K r.1 r.2) → AW G (aRm 3 0 0) M_X12_turn fr 0 0 47 [some (.ref 88), none, none, none] [] shp D (aQi shp K) := by
    intro D h
    unfold J_X12_turn_47 at h
    refine aw_aload_n (n := 48) (i := 0) dX12_turn_47 rfl rfl rfl ?_
    refine aw_getR (n := 51) (j := 16) (r := 104) hG.1 fl_RX12_66 (sF_88 hS) rfl dX12_turn_48 rfl ?_
    refine aw_iconst (n := 52) (v := 1) dX12_turn_51 rfl (by decide) ?_
    refine aw_dup2 (n := 53) dX12_turn_52 rfl rfl rfl ?_
    obtain ⟨g_6, h⟩ := Ok.gd h
    refine aw_iaload (n := 54) hG.1 (sF_104 hS) (aIn_in g_6) dX12_turn_53 rfl ?_
    refine aw_iconst (n := 55) (v := 1) dX12_turn_54 rfl (by decide) ?_
    refine aw_iadd (n := 56) dX12_turn_55 rfl ?_
    obtain ⟨g_7, h⟩ := Ok.gd h
    obtain ⟨D_8, e_D_8, h⟩ := Ok.let_ h
    refine aw_iastore (n := 57) hG.1 (sF_104 hS) (aIn_in g_7) e_D_8 dX12_turn_56 rfl ?_
    refine aw_iconst (n := 58) (v := (-1)) dX12_turn_57 rfl (by decide) ?_
    exact aw_iret rfl (by decide) (by decide) dX12_turn_58 ⟨_, rfl, rfl, (Ok.dn h :)⟩
  have hJ_59 : ∀ (v1 : Int32) (v2 : Int32) (D : aD), Ok (J_X12_turn_59 v1 v2 D) (fun r => K r.1 r.2) → AW G (aRm 3 0 0) M_X12_turn fr 0 0 59 [some (.ref 88), some (.int v1), some (.int v2), none] [] shp D (aQi shp K) := by
    intro v1 v2 D h
    unfold J_X12_turn_59 at h
    refine aw_aload_n (n := 60) (i := 0) dX12_turn_59 rfl rfl rfl ?_
    refine aw_getR (n := 63) (j := 28) (r := 106) hG.1 fl_RX12_76 (sF_88 hS) rfl dX12_turn_60 rfl ?_
    refine aw_iload_n (n := 64) (i := 1) dX12_turn_63 rfl rfl rfl ?_
    obtain ⟨g_9, h⟩ := Ok.gd h
    refine aw_iaload (n := 65) hG.1 (sF_106 hS) (aIn_in g_9) dX12_turn_64 rfl ?_
    obtain ⟨v3_10, e_v3_10, h⟩ := Ok.let_ h
    refine aw_istore_n (n := 66) (i := 3) (al' := [some (.ref 88), some (.int v1), some (.int v2), some (.int v3_10)]) dX12_turn_65 rfl rfl e_v3_10 (by decide) rfl ?_
    refine aw_aload_n (n := 67) (i := 0) dX12_turn_66 rfl rfl rfl ?_
    refine aw_getR (n := 70) (j := 28) (r := 106) hG.1 fl_RX12_76 (sF_88 hS) rfl dX12_turn_67 rfl ?_
    refine aw_iload_n (n := 71) (i := 1) dX12_turn_70 rfl rfl rfl ?_
    refine aw_iload_n (n := 72) (i := 2) dX12_turn_71 rfl rfl rfl ?_
    obtain ⟨g_11, h⟩ := Ok.gd h
    obtain ⟨D_12, e_D_12, h⟩ := Ok.let_ h
    refine aw_iastore (n := 73) hG.1 (sF_106 hS) (aIn_in g_11) e_D_12 dX12_turn_72 rfl ?_
    refine aw_iload_n (n := 74) (i := 3) dX12_turn_73 rfl rfl rfl ?_
    exact aw_iret rfl (by decide) (by decide) dX12_turn_74 ⟨_, rfl, rfl, (Ok.dn h :)⟩
  refine aw_aload_n (n := 1) (i := 0) dX12_turn_0 rfl rfl rfl ?_
  refine aw_iconst (n := 2) (v := 0) dX12_turn_1 rfl (by decide) ?_
  obtain ⟨D_1, e_D_1, h⟩ := Ok.let_ h
  refine aw_putI (n := 5) (j := 2) hG.1 fl_RX12_157 (sF_88 hS) rfl e_D_1 dX12_turn_2 rfl ?_
  refine aw_aload_n (n := 6) (i := 0) dX12_turn_5 rfl rfl rfl ?_
  refine aw_iload_n (n := 7) (i := 1) dX12_turn_6 rfl rfl rfl ?_
  refine aw_cVi (M := M_X12_turn) (n := 10) (As := [.int v1]) (rest := []) hG.1 lk_RX12_316 rfl rfl (sF_88 hS) (c_X12_isPlant hG hS (h := Ok.bi h)) (by decide) (Nat.le_of_ble_eq_true rfl) (by decide) (by decide) dX12_turn_7 rfl (fun y_2 D_3 h => ?_)
  refine aw_if_ne (n := 13) (tgt := 19) dX12_turn_10 rfl (by decide) (fun c => ?_) (fun c => ?_)
  · replace h := Ok.ift h c
    refine aw_iload_n (n := 20) (i := 2) dX12_turn_19 rfl rfl rfl ?_
    refine aw_iconst (n := 21) (v := 0) dX12_turn_20 rfl (by decide) ?_
    refine aw_iconst (n := 22) (v := 2) dX12_turn_21 rfl (by decide) ?_
    refine aw_cSi (M := M_X12_turn) (n := 25) (As := [.int v2, .int 0, .int 2]) (rest := []) lk_RX12_160 rfl rfl (c_X12_isIn hG hS (h := Ok.bi h)) (by decide) (Nat.le_of_ble_eq_true rfl) (by decide) (by decide) dX12_turn_22 rfl (fun y_4 D_5 h => ?_)
    refine aw_if_eq (n := 28) (tgt := 47) dX12_turn_25 rfl (by decide) (fun c => ?_) (fun c => ?_)
    · replace h := Ok.ift h c
      exact aw_le' (hJ_47 D_5 h) ⟨rfl, trivial⟩
    · replace h := Ok.iff h c
      refine aw_iload_n (n := 29) (i := 2) dX12_turn_28 rfl rfl rfl ?_
      refine aw_iconst (n := 30) (v := 2) dX12_turn_29 rfl (by decide) ?_
      refine aw_icmp_ne (n := 33) (tgt := 59) dX12_turn_30 rfl (by decide) (fun c => ?_) (fun c => ?_)
      · replace h := Ok.ift h c
        exact aw_le' (hJ_59 v1 v2 D_5 h) ⟨rfl, ⟨rfl, ⟨rfl, trivial⟩⟩⟩
      · replace h := Ok.iffn h c
        refine aw_aload_n (n := 34) (i := 0) dX12_turn_33 rfl rfl rfl ?_
        refine aw_getR (n := 37) (j := 10) (r := 98) hG.1 fl_RX12_48 (sF_88 hS) rfl dX12_turn_34 rfl ?_
        refine aw_aload_n (n := 38) (i := 0) dX12_turn_37 rfl rfl rfl ?_
        refine aw_getR (n := 41) (j := 11) (r := 99) hG.1 fl_RX12_51 (sF_88 hS) rfl dX12_turn_38 rfl ?_
        refine aw_iload_n (n := 42) (i := 1) dX12_turn_41 rfl rfl rfl ?_
        obtain ⟨g_13, h⟩ := Ok.gd h
        refine aw_iaload (n := 43) hG.1 (sF_99 hS) (aIn_in g_13) dX12_turn_42 rfl ?_
        obtain ⟨g_14, h⟩ := Ok.gd h
        refine aw_iaload (n := 44) hG.1 (sF_98 hS) (aIn_in g_14) dX12_turn_43 rfl ?_
        refine aw_if_ne (n := 47) (tgt := 59) dX12_turn_44 rfl (by decide) (fun c => ?_) (fun c => ?_)
        · replace h := Ok.ift h c
          exact aw_le' (hJ_59 v1 v2 D_5 h) ⟨rfl, ⟨rfl, ⟨rfl, trivial⟩⟩⟩
        · replace h := Ok.iffn h c
          exact aw_le' (hJ_47 D_5 h) ⟨rfl, trivial⟩
  · replace h := Ok.iffn h c
    refine aw_aload_n (n := 14) (i := 0) dX12_turn_13 rfl rfl rfl ?_
    refine aw_iconst (n := 15) (v := 1) dX12_turn_14 rfl (by decide) ?_
    refine aw_cVi (M := M_X12_turn) (n := 18) (As := [.int 1]) (rest := []) hG.1 lk_RX12_290 rfl rfl (sF_88 hS) (c_X12_fail hG hS (h := Ok.bi h)) (by decide) (Nat.le_of_ble_eq_true rfl) (by decide) (by decide) dX12_turn_15 rfl (fun y_15 D_16 h => ?_)
    exact aw_iret rfl (by decide) (by decide) dX12_turn_18 ⟨_, rfl, rfl, (Ok.dn h :)⟩
theorem dX12_week_0 : decode cX12_week 0 = .ok (.aload_n 0, 1) := by decide +kernel
theorem dX12_week_1 : decode cX12_week 1 = .ok (.iconst 0, 1) := by decide +kernel
theorem dX12_week_2 : decode cX12_week 2 = .ok (.putfield 157, 3) := by decide +kernel
theorem dX12_week_5 : decode cX12_week 5 = .ok (.iload_n 1, 1) := by decide +kernel
theorem dX12_week_6 : decode cX12_week 6 = .ok (.iconst 0, 1) := by decide +kernel
theorem dX12_week_7 : decode cX12_week 7 = .ok (.bipush 51, 2) := by decide +kernel
theorem dX12_week_9 : decode cX12_week 9 = .ok (.invokestatic 160, 3) := by decide +kernel
theorem dX12_week_12 : decode cX12_week 12 = .ok (.istore_n 2, 1) := by decide +kernel
theorem dX12_week_13 : decode cX12_week 13 = .ok (.iload_n 2, 1) := by decide +kernel
theorem dX12_week_14 : decode cX12_week 14 = .ok (.ifCond .eq 8, 3) := by decide +kernel
theorem dX12_week_17 : decode cX12_week 17 = .ok (.aload_n 0, 1) := by decide +kernel
theorem dX12_week_18 : decode cX12_week 18 = .ok (.iload_n 1, 1) := by decide +kernel
theorem dX12_week_19 : decode cX12_week 19 = .ok (.putfield 306, 3) := by decide +kernel
theorem dX12_week_22 : decode cX12_week 22 = .ok (.iload_n 2, 1) := by decide +kernel
theorem dX12_week_23 : decode cX12_week 23 = .ok (.ireturn, 1) := by decide +kernel
def f_X12_week (v1 : Int32) (D : aD) : Option (Int32 × aD) :=
  aLet (pI D 88 2 0) (fun D_1 => aBi (f_X12_isIn v1 0 51 D_1) (fun y_2 D_3 => if y_2 = 0 then (aGd (aZ y_2) (some (y_2, D_3))) else (aLet (pI D_3 88 32 v1) (fun D_5 => aGd (aZ y_2) (some (y_2, D_5))))))
set_option maxRecDepth 100000 in
set_option maxHeartbeats 800000 in
theorem c_X12_week {G : aG} (hG : gOK G) {shp : List aSh} (hS : aShp shp) {fr : Option Nat} {v1 : Int32} {D : aD} {K : Int32 → aD → Prop} (h : Ok2 (f_X12_week v1 D) K) : AC G (aRm 2 0 0) M_X12_week [.ref 88, .int v1] fr shp D (aQi shp K) := by
  replace h := Ok2.ok h
  unfold f_X12_week at h
  refine AC.of (al := [some (.ref 88), some (.int v1), none]) (r := 1) (by decide) (Nat.le_of_ble_eq_true rfl) rfl ?_
  refine aw_aload_n (n := 1) (i := 0) dX12_week_0 rfl rfl rfl ?_
  refine aw_iconst (n := 2) (v := 0) dX12_week_1 rfl (by decide) ?_
  obtain ⟨D_1, e_D_1, h⟩ := Ok.let_ h
  refine aw_putI (n := 5) (j := 2) hG.1 fl_RX12_157 (sF_88 hS) rfl e_D_1 dX12_week_2 rfl ?_
  refine aw_iload_n (n := 6) (i := 1) dX12_week_5 rfl rfl rfl ?_
  refine aw_iconst (n := 7) (v := 0) dX12_week_6 rfl (by decide) ?_
  refine aw_bipush (n := 9) (v := 51) dX12_week_7 rfl (by decide) ?_
  refine aw_cSi (M := M_X12_week) (n := 12) (As := [.int v1, .int 0, .int 51]) (rest := []) lk_RX12_160 rfl rfl (c_X12_isIn hG hS (h := Ok.bi h)) (by decide) (Nat.le_of_ble_eq_true rfl) (by decide) (by decide) dX12_week_9 rfl (fun y_2 D_3 h => ?_)
  refine aw_istore_n (n := 13) (i := 2) (al' := [some (.ref 88), some (.int v1), some (.int y_2)]) dX12_week_12 rfl rfl rfl (by decide) rfl ?_
  refine aw_iload_n (n := 14) (i := 2) dX12_week_13 rfl rfl rfl ?_
  refine aw_if_eq (n := 17) (tgt := 22) dX12_week_14 rfl (by decide) (fun c => ?_) (fun c => ?_)
  · replace h := Ok.ift h c
    refine aw_iload_n (n := 23) (i := 2) dX12_week_22 rfl rfl rfl ?_
    obtain ⟨g_4, h⟩ := Ok.gd h
    exact aw_zret rfl (aZ_or g_4) (by decide) (by decide) dX12_week_23 ⟨_, rfl, rfl, (Ok.dn h :)⟩
  · replace h := Ok.iff h c
    refine aw_aload_n (n := 18) (i := 0) dX12_week_17 rfl rfl rfl ?_
    refine aw_iload_n (n := 19) (i := 1) dX12_week_18 rfl rfl rfl ?_
    obtain ⟨D_5, e_D_5, h⟩ := Ok.let_ h
    refine aw_putI (n := 22) (j := 32) hG.1 fl_RX12_306 (sF_88 hS) rfl e_D_5 dX12_week_19 rfl ?_
    refine aw_iload_n (n := 23) (i := 2) dX12_week_22 rfl rfl rfl ?_
    obtain ⟨g_6, h⟩ := Ok.gd h
    exact aw_zret rfl (aZ_or g_6) (by decide) (by decide) dX12_week_23 ⟨_, rfl, rfl, (Ok.dn h :)⟩
theorem dX12_walk_0 : decode cX12_walk 0 = .ok (.aload_n 0, 1) := by decide +kernel
theorem dX12_walk_1 : decode cX12_walk 1 = .ok (.iconst 0, 1) := by decide +kernel
theorem dX12_walk_2 : decode cX12_walk 2 = .ok (.putfield 157, 3) := by decide +kernel
theorem dX12_walk_5 : decode cX12_walk 5 = .ok (.iload_n 1, 1) := by decide +kernel
theorem dX12_walk_6 : decode cX12_walk 6 = .ok (.istore_n 3, 1) := by decide +kernel
theorem dX12_walk_7 : decode cX12_walk 7 = .ok (.iconst 0, 1) := by decide +kernel
theorem dX12_walk_8 : decode cX12_walk 8 = .ok (.istore 4, 2) := by decide +kernel
theorem dX12_walk_10 : decode cX12_walk 10 = .ok (.iconst 0, 1) := by decide +kernel
theorem dX12_walk_11 : decode cX12_walk 11 = .ok (.istore 5, 2) := by decide +kernel
theorem dX12_walk_13 : decode cX12_walk 13 = .ok (.iload 5, 2) := by decide +kernel
theorem dX12_walk_15 : decode cX12_walk 15 = .ok (.aload_n 0, 1) := by decide +kernel
theorem dX12_walk_16 : decode cX12_walk 16 = .ok (.getfield 27, 3) := by decide +kernel
theorem dX12_walk_19 : decode cX12_walk 19 = .ok (.iconst 5, 1) := by decide +kernel
theorem dX12_walk_20 : decode cX12_walk 20 = .ok (.iaload, 1) := by decide +kernel
theorem dX12_walk_21 : decode cX12_walk 21 = .ok (.if_icmp .ge 33, 3) := by decide +kernel
theorem dX12_walk_24 : decode cX12_walk 24 = .ok (.iload 4, 2) := by decide +kernel
theorem dX12_walk_26 : decode cX12_walk 26 = .ok (.iload_n 3, 1) := by decide +kernel
theorem dX12_walk_27 : decode cX12_walk 27 = .ok (.ifCond .lt 12, 3) := by decide +kernel
theorem dX12_walk_30 : decode cX12_walk 30 = .ok (.iconst 1, 1) := by decide +kernel
theorem dX12_walk_31 : decode cX12_walk 31 = .ok (.iload_n 3, 1) := by decide +kernel
theorem dX12_walk_32 : decode cX12_walk 32 = .ok (.bipush 8, 2) := by decide +kernel
theorem dX12_walk_34 : decode cX12_walk 34 = .ok (.irem, 1) := by decide +kernel
theorem dX12_walk_35 : decode cX12_walk 35 = .ok (.ishl, 1) := by decide +kernel
theorem dX12_walk_36 : decode cX12_walk 36 = .ok (.goto 4, 3) := by decide +kernel
theorem dX12_walk_39 : decode cX12_walk 39 = .ok (.iconst 0, 1) := by decide +kernel
theorem dX12_walk_40 : decode cX12_walk 40 = .ok (.ior, 1) := by decide +kernel
theorem dX12_walk_41 : decode cX12_walk 41 = .ok (.istore 4, 2) := by decide +kernel
theorem dX12_walk_43 : decode cX12_walk 43 = .ok (.iload_n 3, 1) := by decide +kernel
theorem dX12_walk_44 : decode cX12_walk 44 = .ok (.bipush 8, 2) := by decide +kernel
theorem dX12_walk_46 : decode cX12_walk 46 = .ok (.idiv, 1) := by decide +kernel
theorem dX12_walk_47 : decode cX12_walk 47 = .ok (.istore_n 3, 1) := by decide +kernel
theorem dX12_walk_48 : decode cX12_walk 48 = .ok (.iinc 5 1, 3) := by decide +kernel
theorem dX12_walk_51 : decode cX12_walk 51 = .ok (.goto (-38), 3) := by decide +kernel
theorem dX12_walk_54 : decode cX12_walk 54 = .ok (.iload_n 1, 1) := by decide +kernel
theorem dX12_walk_55 : decode cX12_walk 55 = .ok (.ifCond .lt 32, 3) := by decide +kernel
theorem dX12_walk_58 : decode cX12_walk 58 = .ok (.iload_n 3, 1) := by decide +kernel
theorem dX12_walk_59 : decode cX12_walk 59 = .ok (.ifCond .ne 28, 3) := by decide +kernel
theorem dX12_walk_62 : decode cX12_walk 62 = .ok (.iload 4, 2) := by decide +kernel
theorem dX12_walk_64 : decode cX12_walk 64 = .ok (.iconst 1, 1) := by decide +kernel
theorem dX12_walk_65 : decode cX12_walk 65 = .ok (.aload_n 0, 1) := by decide +kernel
theorem dX12_walk_66 : decode cX12_walk 66 = .ok (.getfield 27, 3) := by decide +kernel
theorem dX12_walk_69 : decode cX12_walk 69 = .ok (.iconst 5, 1) := by decide +kernel
theorem dX12_walk_70 : decode cX12_walk 70 = .ok (.iaload, 1) := by decide +kernel
theorem dX12_walk_71 : decode cX12_walk 71 = .ok (.ishl, 1) := by decide +kernel
theorem dX12_walk_72 : decode cX12_walk 72 = .ok (.iconst 1, 1) := by decide +kernel
theorem dX12_walk_73 : decode cX12_walk 73 = .ok (.isub, 1) := by decide +kernel
theorem dX12_walk_74 : decode cX12_walk 74 = .ok (.if_icmp .ne 13, 3) := by decide +kernel
theorem dX12_walk_77 : decode cX12_walk 77 = .ok (.iload_n 2, 1) := by decide +kernel
theorem dX12_walk_78 : decode cX12_walk 78 = .ok (.iconst 0, 1) := by decide +kernel
theorem dX12_walk_79 : decode cX12_walk 79 = .ok (.bipush 23, 2) := by decide +kernel
theorem dX12_walk_81 : decode cX12_walk 81 = .ok (.invokestatic 160, 3) := by decide +kernel
theorem dX12_walk_84 : decode cX12_walk 84 = .ok (.ifCond .ne 5, 3) := by decide +kernel
theorem dX12_walk_87 : decode cX12_walk 87 = .ok (.iconst 0, 1) := by decide +kernel
theorem dX12_walk_88 : decode cX12_walk 88 = .ok (.ireturn, 1) := by decide +kernel
theorem dX12_walk_89 : decode cX12_walk 89 = .ok (.iload_n 1, 1) := by decide +kernel
theorem dX12_walk_90 : decode cX12_walk 90 = .ok (.istore_n 3, 1) := by decide +kernel
theorem dX12_walk_91 : decode cX12_walk 91 = .ok (.iconst 0, 1) := by decide +kernel
theorem dX12_walk_92 : decode cX12_walk 92 = .ok (.istore 5, 2) := by decide +kernel
theorem dX12_walk_94 : decode cX12_walk 94 = .ok (.iload 5, 2) := by decide +kernel
theorem dX12_walk_96 : decode cX12_walk 96 = .ok (.aload_n 0, 1) := by decide +kernel
theorem dX12_walk_97 : decode cX12_walk 97 = .ok (.getfield 27, 3) := by decide +kernel
theorem dX12_walk_100 : decode cX12_walk 100 = .ok (.iconst 5, 1) := by decide +kernel
theorem dX12_walk_101 : decode cX12_walk 101 = .ok (.iaload, 1) := by decide +kernel
theorem dX12_walk_102 : decode cX12_walk 102 = .ok (.if_icmp .ge 25, 3) := by decide +kernel
theorem dX12_walk_105 : decode cX12_walk 105 = .ok (.aload_n 0, 1) := by decide +kernel
theorem dX12_walk_106 : decode cX12_walk 106 = .ok (.getfield 79, 3) := by decide +kernel
theorem dX12_walk_109 : decode cX12_walk 109 = .ok (.iload 5, 2) := by decide +kernel
theorem dX12_walk_111 : decode cX12_walk 111 = .ok (.iload_n 3, 1) := by decide +kernel
theorem dX12_walk_112 : decode cX12_walk 112 = .ok (.bipush 8, 2) := by decide +kernel
theorem dX12_walk_114 : decode cX12_walk 114 = .ok (.irem, 1) := by decide +kernel
theorem dX12_walk_115 : decode cX12_walk 115 = .ok (.iastore, 1) := by decide +kernel
theorem dX12_walk_116 : decode cX12_walk 116 = .ok (.iload_n 3, 1) := by decide +kernel
theorem dX12_walk_117 : decode cX12_walk 117 = .ok (.bipush 8, 2) := by decide +kernel
theorem dX12_walk_119 : decode cX12_walk 119 = .ok (.idiv, 1) := by decide +kernel
theorem dX12_walk_120 : decode cX12_walk 120 = .ok (.istore_n 3, 1) := by decide +kernel
theorem dX12_walk_121 : decode cX12_walk 121 = .ok (.iinc 5 1, 3) := by decide +kernel
theorem dX12_walk_124 : decode cX12_walk 124 = .ok (.goto (-30), 3) := by decide +kernel
theorem dX12_walk_127 : decode cX12_walk 127 = .ok (.aload_n 0, 1) := by decide +kernel
theorem dX12_walk_128 : decode cX12_walk 128 = .ok (.iload_n 2, 1) := by decide +kernel
theorem dX12_walk_129 : decode cX12_walk 129 = .ok (.putfield 82, 3) := by decide +kernel
theorem dX12_walk_132 : decode cX12_walk 132 = .ok (.iconst 1, 1) := by decide +kernel
theorem dX12_walk_133 : decode cX12_walk 133 = .ok (.ireturn, 1) := by decide +kernel
def J_X12_walk_127 (v2 : Int32) (D : aD) : Option (Int32 × aD) :=
  aLet (pI D 88 31 v2) (fun D_5 => some (1, D_5))
def B_X12_walk_94 (v2 : Int32) (v3 : Int32) (v5 : Int32) (D : aD) : Option ((Int32 × Int32 × aD) ⊕ ((aD))) :=
  aGd (aIn 5 32) (if gI D 91 (5 : Int32).toNatClampNeg ≤ v5 then (some (.inr D)) else (aGd (aIn v5 5) (aLet (pI D 107 v5.toNatClampNeg (v3 - v3 / 8 * 8)) (fun D_8 => aLet (v3 / 8) (fun v3_9 => aLet (v5 + 1) (fun v5_10 => some (.inl (v3_9, v5_10, D_8))))))))
def J_X12_walk_94 (v2 : Int32) (v3 : Int32) (v5 : Int32) (D : aD) : Option (Int32 × aD) :=
  (aLp (fun s => B_X12_walk_94 v2 s.1 s.2.1 s.2.2) (v3, v5, D)).bind (fun r => J_X12_walk_127 v2 r)
def J_X12_walk_54 (v1 : Int32) (v2 : Int32) (v3 : Int32) (v4 : Int32) (D : aD) : Option (Int32 × aD) :=
  if v1 < 0 then (some (0, D)) else (if v3 ≠ 0 then (some (0, D)) else (aGd (aIn 5 32) (if v4 ≠ ((1 : Int32) <<< ((gI D 91 (5 : Int32).toNatClampNeg) &&& 31)) - 1 then (some (0, D)) else (aBi (f_X12_isIn v2 0 23 D) (fun y_3 D_4 => if y_3 ≠ 0 then (J_X12_walk_94 v2 v1 0 D_4) else (some (0, D_4)))))))
def J_X12_walk_40 (v1 : Int32) (v2 : Int32) (v3 : Int32) (v5 : Int32) (t0 : Int32) (t1 : Int32) (D : aD) : Option ((Int32 × Int32 × Int32 × aD) ⊕ ((Int32 × Int32 × aD))) :=
  aLet (t1 ||| t0) (fun v4_12 => aLet (v3 / 8) (fun v3_13 => aLet (v5 + 1) (fun v5_14 => some (.inl (v3_13, v4_12, v5_14, D)))))
def B_X12_walk_13 (v1 : Int32) (v2 : Int32) (v3 : Int32) (v4 : Int32) (v5 : Int32) (D : aD) : Option ((Int32 × Int32 × Int32 × aD) ⊕ ((Int32 × Int32 × aD))) :=
  aGd (aIn 5 32) (if gI D 91 (5 : Int32).toNatClampNeg ≤ v5 then (some (.inr (v3, v4, D))) else (if v3 < 0 then (J_X12_walk_40 v1 v2 v3 v5 0 v4 D) else (J_X12_walk_40 v1 v2 v3 v5 ((1 : Int32) <<< ((v3 - v3 / 8 * 8) &&& 31)) v4 D)))
def J_X12_walk_13 (v1 : Int32) (v2 : Int32) (v3 : Int32) (v4 : Int32) (v5 : Int32) (D : aD) : Option (Int32 × aD) :=
  (aLp (fun s => B_X12_walk_13 v1 v2 s.1 s.2.1 s.2.2.1 s.2.2.2) (v3, v4, v5, D)).bind (fun r => J_X12_walk_54 v1 v2 (r.1) (r.2.1) r.2.2)
def f_X12_walk (v1 : Int32) (v2 : Int32) (D : aD) : Option (Int32 × aD) :=
  aLet (pI D 88 2 0) (fun D_1 => J_X12_walk_13 v1 v2 v1 0 0 D_1)
set_option maxRecDepth 100000 in
set_option maxHeartbeats 800000 in
theorem c_X12_walk {G : aG} (hG : gOK G) {shp : List aSh} (hS : aShp shp) {fr : Option Nat} {v1 : Int32} {v2 : Int32} {D : aD} {K : Int32 → aD → Prop} (h : Ok2 (f_X12_walk v1 v2 D) K) : AC G (aRm 2 0 0) M_X12_walk [.ref 88, .int v1, .int v2] fr shp D (aQi shp K) := by
  replace h := Ok2.ok h
  unfold f_X12_walk at h
  refine AC.of (al := [some (.ref 88), some (.int v1), some (.int v2), none, none, none]) (r := 3) (by decide) (Nat.le_of_ble_eq_true rfl) rfl ?_
  have hJ_127 : ∀ (v2 : Int32) (D : aD), Ok (J_X12_walk_127 v2 D) (fun r => K r.1 r.2) → AW G (aRm 2 0 0) M_X12_walk fr 0 0 127 [some (.ref 88), none, some (.int v2), none, none, none] [] shp D (aQi shp K) := by
    intro v2 D h
    unfold J_X12_walk_127 at h
    refine aw_aload_n (n := 128) (i := 0) dX12_walk_127 rfl rfl rfl ?_
    refine aw_iload_n (n := 129) (i := 2) dX12_walk_128 rfl rfl rfl ?_
    obtain ⟨D_5, e_D_5, h⟩ := Ok.let_ h
    refine aw_putI (n := 132) (j := 31) hG.1 fl_RX12_82 (sF_88 hS) rfl e_D_5 dX12_walk_129 rfl ?_
    refine aw_iconst (n := 133) (v := 1) dX12_walk_132 rfl (by decide) ?_
    exact aw_zret rfl (by decide) (by decide) (by decide) dX12_walk_133 ⟨_, rfl, rfl, (Ok.dn h :)⟩
  have hJ_94 : ∀ (v2 : Int32) (v3 : Int32) (v5 : Int32) (D : aD), Ok (J_X12_walk_94 v2 v3 v5 D) (fun r => K r.1 r.2) → AW G (aRm 2 0 0) M_X12_walk fr 0 0 94 [some (.ref 88), none, some (.int v2), some (.int v3), none, some (.int v5)] [] shp D (aQi shp K) := by
    intro v2 v3 v5 D h
    unfold J_X12_walk_94 at h
    refine Ok.lp (P := fun s => AW G (aRm 2 0 0) M_X12_walk fr 0 0 94 [some (.ref 88), none, some (.int v2), some (.int (s.1)), none, some (.int (s.2.1))] [] shp s.2.2 (aQi shp K)) (fun s Kb94 hL94 hR94 h => ?_) (v3, v5, D) (Ok.bind h)
    obtain ⟨v3, v5, D⟩ := s
    replace h : Ok (B_X12_walk_94 v2 v3 v5 D) Kb94 := h
    unfold B_X12_walk_94 at h
    refine aw_iload (n := 96) (i := 5) dX12_walk_94 rfl rfl ?_
    refine aw_aload_n (n := 97) (i := 0) dX12_walk_96 rfl rfl rfl ?_
    refine aw_getR (n := 100) (j := 3) (r := 91) hG.1 fl_RX12_27 (sF_88 hS) rfl dX12_walk_97 rfl ?_
    refine aw_iconst (n := 101) (v := 5) dX12_walk_100 rfl (by decide) ?_
    obtain ⟨g_6, h⟩ := Ok.gd h
    refine aw_iaload (n := 102) hG.1 (sF_91 hS) (aIn_in g_6) dX12_walk_101 rfl ?_
    refine aw_icmp_ge (n := 105) (tgt := 127) dX12_walk_102 rfl (by decide) (fun c => ?_) (fun c => ?_)
    · replace h := Ok.ift h c
      exact aw_le' (hJ_127 v2 D (hR94 D (Ok.dn h :))) ⟨rfl, ⟨rfl, trivial⟩⟩
    · replace h := Ok.iff h c
      refine aw_aload_n (n := 106) (i := 0) dX12_walk_105 rfl rfl rfl ?_
      refine aw_getR (n := 109) (j := 29) (r := 107) hG.1 fl_RX12_79 (sF_88 hS) rfl dX12_walk_106 rfl ?_
      refine aw_iload (n := 111) (i := 5) dX12_walk_109 rfl rfl ?_
      refine aw_iload_n (n := 112) (i := 3) dX12_walk_111 rfl rfl rfl ?_
      refine aw_bipush (n := 114) (v := 8) dX12_walk_112 rfl (by decide) ?_
      refine aw_irem (n := 115) dX12_walk_114 rfl (by decide) ?_
      obtain ⟨g_7, h⟩ := Ok.gd h
      obtain ⟨D_8, e_D_8, h⟩ := Ok.let_ h
      refine aw_iastore (n := 116) hG.1 (sF_107 hS) (aIn_in g_7) e_D_8 dX12_walk_115 rfl ?_
      refine aw_iload_n (n := 117) (i := 3) dX12_walk_116 rfl rfl rfl ?_
      refine aw_bipush (n := 119) (v := 8) dX12_walk_117 rfl (by decide) ?_
      refine aw_idiv (n := 120) dX12_walk_119 rfl (by decide) ?_
      obtain ⟨v3_9, e_v3_9, h⟩ := Ok.let_ h
      refine aw_istore_n (n := 121) (i := 3) (al' := [some (.ref 88), none, some (.int v2), some (.int v3_9), none, some (.int v5)]) dX12_walk_120 rfl rfl e_v3_9 (by decide) rfl ?_
      obtain ⟨v5_10, e_v5_10, h⟩ := Ok.let_ h
      refine aw_iinc (n := 124) (al' := [some (.ref 88), none, some (.int v2), some (.int v3_9), none, some (.int v5_10)]) dX12_walk_121 rfl rfl e_v5_10 (by decide) rfl ?_
      refine aw_goto (tgt := 94) dX12_walk_124 (by decide) ?_
      exact aw_le' (hL94 (v3_9, v5_10, D_8) (Ok.dn h :)) ⟨rfl, ⟨rfl, ⟨rfl, ⟨rfl, trivial⟩⟩⟩⟩
  have hJ_54 : ∀ (v1 : Int32) (v2 : Int32) (v3 : Int32) (v4 : Int32) (D : aD), Ok (J_X12_walk_54 v1 v2 v3 v4 D) (fun r => K r.1 r.2) → AW G (aRm 2 0 0) M_X12_walk fr 0 0 54 [some (.ref 88), some (.int v1), some (.int v2), some (.int v3), some (.int v4), none] [] shp D (aQi shp K) := by
    intro v1 v2 v3 v4 D h
    unfold J_X12_walk_54 at h
    refine aw_iload_n (n := 55) (i := 1) dX12_walk_54 rfl rfl rfl ?_
    refine aw_if_lt (n := 58) (tgt := 87) dX12_walk_55 rfl (by decide) (fun c => ?_) (fun c => ?_)
    · replace h := Ok.ift h c
      refine aw_iconst (n := 88) (v := 0) dX12_walk_87 rfl (by decide) ?_
      exact aw_zret rfl (by decide) (by decide) (by decide) dX12_walk_88 ⟨_, rfl, rfl, (Ok.dn h :)⟩
    · replace h := Ok.iff h c
      refine aw_iload_n (n := 59) (i := 3) dX12_walk_58 rfl rfl rfl ?_
      refine aw_if_ne (n := 62) (tgt := 87) dX12_walk_59 rfl (by decide) (fun c => ?_) (fun c => ?_)
      · replace h := Ok.ift h c
        refine aw_iconst (n := 88) (v := 0) dX12_walk_87 rfl (by decide) ?_
        exact aw_zret rfl (by decide) (by decide) (by decide) dX12_walk_88 ⟨_, rfl, rfl, (Ok.dn h :)⟩
      · replace h := Ok.iffn h c
        refine aw_iload (n := 64) (i := 4) dX12_walk_62 rfl rfl ?_
        refine aw_iconst (n := 65) (v := 1) dX12_walk_64 rfl (by decide) ?_
        refine aw_aload_n (n := 66) (i := 0) dX12_walk_65 rfl rfl rfl ?_
        refine aw_getR (n := 69) (j := 3) (r := 91) hG.1 fl_RX12_27 (sF_88 hS) rfl dX12_walk_66 rfl ?_
        refine aw_iconst (n := 70) (v := 5) dX12_walk_69 rfl (by decide) ?_
        obtain ⟨g_2, h⟩ := Ok.gd h
        refine aw_iaload (n := 71) hG.1 (sF_91 hS) (aIn_in g_2) dX12_walk_70 rfl ?_
        refine aw_ishl (n := 72) dX12_walk_71 rfl ?_
        refine aw_iconst (n := 73) (v := 1) dX12_walk_72 rfl (by decide) ?_
        refine aw_isub (n := 74) dX12_walk_73 rfl ?_
        refine aw_icmp_ne (n := 77) (tgt := 87) dX12_walk_74 rfl (by decide) (fun c => ?_) (fun c => ?_)
        · replace h := Ok.ift h c
          refine aw_iconst (n := 88) (v := 0) dX12_walk_87 rfl (by decide) ?_
          exact aw_zret rfl (by decide) (by decide) (by decide) dX12_walk_88 ⟨_, rfl, rfl, (Ok.dn h :)⟩
        · replace h := Ok.iffn h c
          refine aw_iload_n (n := 78) (i := 2) dX12_walk_77 rfl rfl rfl ?_
          refine aw_iconst (n := 79) (v := 0) dX12_walk_78 rfl (by decide) ?_
          refine aw_bipush (n := 81) (v := 23) dX12_walk_79 rfl (by decide) ?_
          refine aw_cSi (M := M_X12_walk) (n := 84) (As := [.int v2, .int 0, .int 23]) (rest := []) lk_RX12_160 rfl rfl (c_X12_isIn hG hS (h := Ok.bi h)) (by decide) (Nat.le_of_ble_eq_true rfl) (by decide) (by decide) dX12_walk_81 rfl (fun y_3 D_4 h => ?_)
          refine aw_if_ne (n := 87) (tgt := 89) dX12_walk_84 rfl (by decide) (fun c => ?_) (fun c => ?_)
          · replace h := Ok.ift h c
            refine aw_iload_n (n := 90) (i := 1) dX12_walk_89 rfl rfl rfl ?_
            refine aw_istore_n (n := 91) (i := 3) (al' := [some (.ref 88), some (.int v1), some (.int v2), some (.int v1), some (.int v4), none]) dX12_walk_90 rfl rfl rfl (by decide) rfl ?_
            refine aw_iconst (n := 92) (v := 0) dX12_walk_91 rfl (by decide) ?_
            refine aw_istore (n := 94) (i := 5) (al' := [some (.ref 88), some (.int v1), some (.int v2), some (.int v1), some (.int v4), some (.int 0)]) dX12_walk_92 rfl rfl (by decide) rfl ?_
            exact aw_le' (hJ_94 v2 v1 0 D_4 h) ⟨rfl, ⟨rfl, ⟨rfl, ⟨rfl, trivial⟩⟩⟩⟩
          · replace h := Ok.iffn h c
            refine aw_iconst (n := 88) (v := 0) dX12_walk_87 rfl (by decide) ?_
            exact aw_zret rfl (by decide) (by decide) (by decide) dX12_walk_88 ⟨_, rfl, rfl, (Ok.dn h :)⟩
  have hJ_13 : ∀ (v1 : Int32) (v2 : Int32) (v3 : Int32) (v4 : Int32) (v5 : Int32) (D : aD), Ok (J_X12_walk_13 v1 v2 v3 v4 v5 D) (fun r => K r.1 r.2) → AW G (aRm 2 0 0) M_X12_walk fr 0 0 13 [some (.ref 88), some (.int v1), some (.int v2), some (.int v3), some (.int v4), some (.int v5)] [] shp D (aQi shp K) := by
    intro v1 v2 v3 v4 v5 D h
    unfold J_X12_walk_13 at h
    refine Ok.lp (P := fun s => AW G (aRm 2 0 0) M_X12_walk fr 0 0 13 [some (.ref 88), some (.int v1), some (.int v2), some (.int (s.1)), some (.int (s.2.1)), some (.int (s.2.2.1))] [] shp s.2.2.2 (aQi shp K)) (fun s Kb13 hL13 hR13 h => ?_) (v3, v4, v5, D) (Ok.bind h)
    obtain ⟨v3, v4, v5, D⟩ := s
    replace h : Ok (B_X12_walk_13 v1 v2 v3 v4 v5 D) Kb13 := h
    unfold B_X12_walk_13 at h
    have hJ_40 : ∀ (v3 : Int32) (v5 : Int32) (t0 : Int32) (t1 : Int32) (D : aD), Ok (J_X12_walk_40 v1 v2 v3 v5 t0 t1 D) Kb13 → AW G (aRm 2 0 0) M_X12_walk fr 0 0 40 [some (.ref 88), some (.int v1), some (.int v2), some (.int v3), none, some (.int v5)] [.int t0, .int t1] shp D (aQi shp K) := by
      intro v3 v5 t0 t1 D h
      unfold J_X12_walk_40 at h
      refine aw_ior (n := 41) dX12_walk_40 rfl ?_
      obtain ⟨v4_12, e_v4_12, h⟩ := Ok.let_ h
      refine aw_istore (n := 43) (i := 4) (al' := [some (.ref 88), some (.int v1), some (.int v2), some (.int v3), some (.int v4_12), some (.int v5)]) dX12_walk_41 rfl e_v4_12 (by decide) rfl ?_
      refine aw_iload_n (n := 44) (i := 3) dX12_walk_43 rfl rfl rfl ?_
      refine aw_bipush (n := 46) (v := 8) dX12_walk_44 rfl (by decide) ?_
      refine aw_idiv (n := 47) dX12_walk_46 rfl (by decide) ?_
      obtain ⟨v3_13, e_v3_13, h⟩ := Ok.let_ h
      refine aw_istore_n (n := 48) (i := 3) (al' := [some (.ref 88), some (.int v1), some (.int v2), some (.int v3_13), some (.int v4_12), some (.int v5)]) dX12_walk_47 rfl rfl e_v3_13 (by decide) rfl ?_
      obtain ⟨v5_14, e_v5_14, h⟩ := Ok.let_ h
      refine aw_iinc (n := 51) (al' := [some (.ref 88), some (.int v1), some (.int v2), some (.int v3_13), some (.int v4_12), some (.int v5_14)]) dX12_walk_48 rfl rfl e_v5_14 (by decide) rfl ?_
      refine aw_goto (tgt := 13) dX12_walk_51 (by decide) ?_
      exact aw_le' (hL13 (v3_13, v4_12, v5_14, D) (Ok.dn h :)) ⟨rfl, ⟨rfl, ⟨rfl, ⟨rfl, ⟨rfl, ⟨rfl, trivial⟩⟩⟩⟩⟩⟩
    refine aw_iload (n := 15) (i := 5) dX12_walk_13 rfl rfl ?_
    refine aw_aload_n (n := 16) (i := 0) dX12_walk_15 rfl rfl rfl ?_
    refine aw_getR (n := 19) (j := 3) (r := 91) hG.1 fl_RX12_27 (sF_88 hS) rfl dX12_walk_16 rfl ?_
    refine aw_iconst (n := 20) (v := 5) dX12_walk_19 rfl (by decide) ?_
    obtain ⟨g_11, h⟩ := Ok.gd h
    refine aw_iaload (n := 21) hG.1 (sF_91 hS) (aIn_in g_11) dX12_walk_20 rfl ?_
    refine aw_icmp_ge (n := 24) (tgt := 54) dX12_walk_21 rfl (by decide) (fun c => ?_) (fun c => ?_)
    · replace h := Ok.ift h c
      exact aw_le' (hJ_54 v1 v2 v3 v4 D (hR13 (v3, v4, D) (Ok.dn h :))) ⟨rfl, ⟨rfl, ⟨rfl, ⟨rfl, ⟨rfl, trivial⟩⟩⟩⟩⟩
    · replace h := Ok.iff h c
      refine aw_iload (n := 26) (i := 4) dX12_walk_24 rfl rfl ?_
      refine aw_iload_n (n := 27) (i := 3) dX12_walk_26 rfl rfl rfl ?_
      refine aw_if_lt (n := 30) (tgt := 39) dX12_walk_27 rfl (by decide) (fun c => ?_) (fun c => ?_)
      · replace h := Ok.ift h c
        refine aw_iconst (n := 40) (v := 0) dX12_walk_39 rfl (by decide) ?_
        exact aw_le' (hJ_40 v3 v5 0 v4 D h) ⟨rfl, ⟨rfl, ⟨rfl, ⟨rfl, ⟨rfl, trivial⟩⟩⟩⟩⟩
      · replace h := Ok.iff h c
        refine aw_iconst (n := 31) (v := 1) dX12_walk_30 rfl (by decide) ?_
        refine aw_iload_n (n := 32) (i := 3) dX12_walk_31 rfl rfl rfl ?_
        refine aw_bipush (n := 34) (v := 8) dX12_walk_32 rfl (by decide) ?_
        refine aw_irem (n := 35) dX12_walk_34 rfl (by decide) ?_
        refine aw_ishl (n := 36) dX12_walk_35 rfl ?_
        refine aw_goto (tgt := 40) dX12_walk_36 (by decide) ?_
        exact aw_le' (hJ_40 v3 v5 ((1 : Int32) <<< ((v3 - v3 / 8 * 8) &&& 31)) v4 D h) ⟨rfl, ⟨rfl, ⟨rfl, ⟨rfl, ⟨rfl, trivial⟩⟩⟩⟩⟩
  refine aw_aload_n (n := 1) (i := 0) dX12_walk_0 rfl rfl rfl ?_
  refine aw_iconst (n := 2) (v := 0) dX12_walk_1 rfl (by decide) ?_
  obtain ⟨D_1, e_D_1, h⟩ := Ok.let_ h
  refine aw_putI (n := 5) (j := 2) hG.1 fl_RX12_157 (sF_88 hS) rfl e_D_1 dX12_walk_2 rfl ?_
  refine aw_iload_n (n := 6) (i := 1) dX12_walk_5 rfl rfl rfl ?_
  refine aw_istore_n (n := 7) (i := 3) (al' := [some (.ref 88), some (.int v1), some (.int v2), some (.int v1), none, none]) dX12_walk_6 rfl rfl rfl (by decide) rfl ?_
  refine aw_iconst (n := 8) (v := 0) dX12_walk_7 rfl (by decide) ?_
  refine aw_istore (n := 10) (i := 4) (al' := [some (.ref 88), some (.int v1), some (.int v2), some (.int v1), some (.int 0), none]) dX12_walk_8 rfl rfl (by decide) rfl ?_
  refine aw_iconst (n := 11) (v := 0) dX12_walk_10 rfl (by decide) ?_
  refine aw_istore (n := 13) (i := 5) (al' := [some (.ref 88), some (.int v1), some (.int v2), some (.int v1), some (.int 0), some (.int 0)]) dX12_walk_11 rfl rfl (by decide) rfl ?_
  exact aw_le' (hJ_13 v1 v2 v1 0 0 D_1 h) ⟨rfl, ⟨rfl, ⟨rfl, ⟨rfl, ⟨rfl, ⟨rfl, trivial⟩⟩⟩⟩⟩⟩
theorem dX12_numberOf_0 : decode cX12_numberOf 0 = .ok (.iconst 0, 1) := by decide +kernel
theorem dX12_numberOf_1 : decode cX12_numberOf 1 = .ok (.istore_n 2, 1) := by decide +kernel
theorem dX12_numberOf_2 : decode cX12_numberOf 2 = .ok (.aload_n 0, 1) := by decide +kernel
theorem dX12_numberOf_3 : decode cX12_numberOf 3 = .ok (.getfield 27, 3) := by decide +kernel
theorem dX12_numberOf_6 : decode cX12_numberOf 6 = .ok (.iconst 5, 1) := by decide +kernel
theorem dX12_numberOf_7 : decode cX12_numberOf 7 = .ok (.iaload, 1) := by decide +kernel
theorem dX12_numberOf_8 : decode cX12_numberOf 8 = .ok (.iconst 1, 1) := by decide +kernel
theorem dX12_numberOf_9 : decode cX12_numberOf 9 = .ok (.isub, 1) := by decide +kernel
theorem dX12_numberOf_10 : decode cX12_numberOf 10 = .ok (.istore_n 3, 1) := by decide +kernel
theorem dX12_numberOf_11 : decode cX12_numberOf 11 = .ok (.iload_n 3, 1) := by decide +kernel
theorem dX12_numberOf_12 : decode cX12_numberOf 12 = .ok (.ifCond .lt 18, 3) := by decide +kernel
theorem dX12_numberOf_15 : decode cX12_numberOf 15 = .ok (.bipush 8, 2) := by decide +kernel
theorem dX12_numberOf_17 : decode cX12_numberOf 17 = .ok (.iload_n 2, 1) := by decide +kernel
theorem dX12_numberOf_18 : decode cX12_numberOf 18 = .ok (.imul, 1) := by decide +kernel
theorem dX12_numberOf_19 : decode cX12_numberOf 19 = .ok (.aload_n 1, 1) := by decide +kernel
theorem dX12_numberOf_20 : decode cX12_numberOf 20 = .ok (.iload_n 3, 1) := by decide +kernel
theorem dX12_numberOf_21 : decode cX12_numberOf 21 = .ok (.iaload, 1) := by decide +kernel
theorem dX12_numberOf_22 : decode cX12_numberOf 22 = .ok (.iadd, 1) := by decide +kernel
theorem dX12_numberOf_23 : decode cX12_numberOf 23 = .ok (.istore_n 2, 1) := by decide +kernel
theorem dX12_numberOf_24 : decode cX12_numberOf 24 = .ok (.iinc 3 (-1), 3) := by decide +kernel
theorem dX12_numberOf_27 : decode cX12_numberOf 27 = .ok (.goto (-16), 3) := by decide +kernel
theorem dX12_numberOf_30 : decode cX12_numberOf 30 = .ok (.iload_n 2, 1) := by decide +kernel
theorem dX12_numberOf_31 : decode cX12_numberOf 31 = .ok (.ireturn, 1) := by decide +kernel
def J_X12_numberOf_30 (a1 : Nat) (na1 : Nat) (v2 : Int32) (D : aD) : Option (Int32 × aD) :=
  some (v2, D)
def B_X12_numberOf_11 (a1 : Nat) (na1 : Nat) (v2 : Int32) (v3 : Int32) (D : aD) : Option ((Int32 × Int32 × aD) ⊕ ((Int32 × aD))) :=
  if v3 < 0 then (some (.inr (v2, D))) else (aGd (aIn v3 na1) (aLet ((8 * v2) + (gI D a1 v3.toNatClampNeg)) (fun v2_4 => aLet (v3 + (-1)) (fun v3_5 => some (.inl (v2_4, v3_5, D))))))
def J_X12_numberOf_11 (a1 : Nat) (na1 : Nat) (v2 : Int32) (v3 : Int32) (D : aD) : Option (Int32 × aD) :=
  (aLp (fun s => B_X12_numberOf_11 a1 na1 s.1 s.2.1 s.2.2) (v2, v3, D)).bind (fun r => J_X12_numberOf_30 a1 na1 (r.1) r.2)
def f_X12_numberOf (a1 : Nat) (na1 : Nat) (D : aD) : Option (Int32 × aD) :=
  aGd (aIn 5 32) (aLet ((gI D 91 (5 : Int32).toNatClampNeg) - 1) (fun v3_2 => J_X12_numberOf_11 a1 na1 0 v3_2 D))
set_option maxRecDepth 100000 in
set_option maxHeartbeats 800000 in
theorem c_X12_numberOf {G : aG} (hG : gOK G) {shp : List aSh} (hS : aShp shp) {fr : Option Nat} {a1 : Nat} {na1 : Nat} {D : aD} {K : Int32 → aD → Prop} (h : Ok2 (f_X12_numberOf a1 na1 D) K) (ha1 : shp[a1]? = some (.inl (1, na1, []))) : AC G (aRm 1 0 0) M_X12_numberOf [.ref 88, .ref a1] fr shp D (aQi shp K) := by
  replace h := Ok2.ok h
  unfold f_X12_numberOf at h
  refine AC.of (al := [some (.ref 88), some (.ref a1), none, none]) (r := 2) (by decide) (Nat.le_of_ble_eq_true rfl) rfl ?_
  have hJ_30 : ∀ (v2 : Int32) (D : aD), Ok (J_X12_numberOf_30 a1 na1 v2 D) (fun r => K r.1 r.2) → AW G (aRm 1 0 0) M_X12_numberOf fr 0 0 30 [none, none, some (.int v2), none] [] shp D (aQi shp K) := by
    intro v2 D h
    unfold J_X12_numberOf_30 at h
    refine aw_iload_n (n := 31) (i := 2) dX12_numberOf_30 rfl rfl rfl ?_
    exact aw_iret rfl (by decide) (by decide) dX12_numberOf_31 ⟨_, rfl, rfl, (Ok.dn h :)⟩
  have hJ_11 : ∀ (v2 : Int32) (v3 : Int32) (D : aD), Ok (J_X12_numberOf_11 a1 na1 v2 v3 D) (fun r => K r.1 r.2) → AW G (aRm 1 0 0) M_X12_numberOf fr 0 0 11 [none, some (.ref a1), some (.int v2), some (.int v3)] [] shp D (aQi shp K) := by
    intro v2 v3 D h
    unfold J_X12_numberOf_11 at h
    refine Ok.lp (P := fun s => AW G (aRm 1 0 0) M_X12_numberOf fr 0 0 11 [none, some (.ref a1), some (.int (s.1)), some (.int (s.2.1))] [] shp s.2.2 (aQi shp K)) (fun s Kb11 hL11 hR11 h => ?_) (v2, v3, D) (Ok.bind h)
    obtain ⟨v2, v3, D⟩ := s
    replace h : Ok (B_X12_numberOf_11 a1 na1 v2 v3 D) Kb11 := h
    unfold B_X12_numberOf_11 at h
    refine aw_iload_n (n := 12) (i := 3) dX12_numberOf_11 rfl rfl rfl ?_
    refine aw_if_lt (n := 15) (tgt := 30) dX12_numberOf_12 rfl (by decide) (fun c => ?_) (fun c => ?_)
    · replace h := Ok.ift h c
      exact aw_le' (hJ_30 v2 D (hR11 (v2, D) (Ok.dn h :))) ⟨rfl, trivial⟩
    · replace h := Ok.iff h c
      refine aw_bipush (n := 17) (v := 8) dX12_numberOf_15 rfl (by decide) ?_
      refine aw_iload_n (n := 18) (i := 2) dX12_numberOf_17 rfl rfl rfl ?_
      refine aw_imul (n := 19) dX12_numberOf_18 rfl ?_
      refine aw_aload_n (n := 20) (i := 1) dX12_numberOf_19 rfl rfl rfl ?_
      refine aw_iload_n (n := 21) (i := 3) dX12_numberOf_20 rfl rfl rfl ?_
      obtain ⟨g_3, h⟩ := Ok.gd h
      refine aw_iaload (n := 22) hG.1 ha1 (aIn_in g_3) dX12_numberOf_21 rfl ?_
      refine aw_iadd (n := 23) dX12_numberOf_22 rfl ?_
      obtain ⟨v2_4, e_v2_4, h⟩ := Ok.let_ h
      refine aw_istore_n (n := 24) (i := 2) (al' := [none, some (.ref a1), some (.int v2_4), some (.int v3)]) dX12_numberOf_23 rfl rfl e_v2_4 (by decide) rfl ?_
      obtain ⟨v3_5, e_v3_5, h⟩ := Ok.let_ h
      refine aw_iinc (n := 27) (al' := [none, some (.ref a1), some (.int v2_4), some (.int v3_5)]) dX12_numberOf_24 rfl rfl e_v3_5 (by decide) rfl ?_
      refine aw_goto (tgt := 11) dX12_numberOf_27 (by decide) ?_
      exact aw_le' (hL11 (v2_4, v3_5, D) (Ok.dn h :)) ⟨rfl, ⟨rfl, ⟨rfl, trivial⟩⟩⟩
  refine aw_iconst (n := 1) (v := 0) dX12_numberOf_0 rfl (by decide) ?_
  refine aw_istore_n (n := 2) (i := 2) (al' := [some (.ref 88), some (.ref a1), some (.int 0), none]) dX12_numberOf_1 rfl rfl rfl (by decide) rfl ?_
  refine aw_aload_n (n := 3) (i := 0) dX12_numberOf_2 rfl rfl rfl ?_
  refine aw_getR (n := 6) (j := 3) (r := 91) hG.1 fl_RX12_27 (sF_88 hS) rfl dX12_numberOf_3 rfl ?_
  refine aw_iconst (n := 7) (v := 5) dX12_numberOf_6 rfl (by decide) ?_
  obtain ⟨g_1, h⟩ := Ok.gd h
  refine aw_iaload (n := 8) hG.1 (sF_91 hS) (aIn_in g_1) dX12_numberOf_7 rfl ?_
  refine aw_iconst (n := 9) (v := 1) dX12_numberOf_8 rfl (by decide) ?_
  refine aw_isub (n := 10) dX12_numberOf_9 rfl ?_
  obtain ⟨v3_2, e_v3_2, h⟩ := Ok.let_ h
  refine aw_istore_n (n := 11) (i := 3) (al' := [some (.ref 88), some (.ref a1), some (.int 0), some (.int v3_2)]) dX12_numberOf_10 rfl rfl e_v3_2 (by decide) rfl ?_
  exact aw_le' (hJ_11 0 v3_2 D h) ⟨rfl, ⟨rfl, ⟨rfl, trivial⟩⟩⟩
theorem dX12_order_0 : decode cX12_order 0 = .ok (.aload_n 0, 1) := by decide +kernel
theorem dX12_order_1 : decode cX12_order 1 = .ok (.iconst 0, 1) := by decide +kernel
theorem dX12_order_2 : decode cX12_order 2 = .ok (.putfield 157, 3) := by decide +kernel
theorem dX12_order_5 : decode cX12_order 5 = .ok (.aload_n 0, 1) := by decide +kernel
theorem dX12_order_6 : decode cX12_order 6 = .ok (.aload_n 0, 1) := by decide +kernel
theorem dX12_order_7 : decode cX12_order 7 = .ok (.getfield 79, 3) := by decide +kernel
theorem dX12_order_10 : decode cX12_order 10 = .ok (.invokevirtual 319, 3) := by decide +kernel
theorem dX12_order_13 : decode cX12_order 13 = .ok (.ireturn, 1) := by decide +kernel
def f_X12_order (D : aD) : Option (Int32 × aD) :=
  aLet (pI D 88 2 0) (fun D_1 => aBi (f_X12_numberOf 107 5 D_1) (fun y_2 D_3 => some (y_2, D_3)))
set_option maxRecDepth 100000 in
set_option maxHeartbeats 800000 in
theorem c_X12_order {G : aG} (hG : gOK G) {shp : List aSh} (hS : aShp shp) {fr : Option Nat} {D : aD} {K : Int32 → aD → Prop} (h : Ok2 (f_X12_order D) K) : AC G (aRm 2 0 0) M_X12_order [.ref 88] fr shp D (aQi shp K) := by
  replace h := Ok2.ok h
  unfold f_X12_order at h
  refine AC.of (al := [some (.ref 88)]) (r := 0) (by decide) (Nat.le_of_ble_eq_true rfl) rfl ?_
  refine aw_aload_n (n := 1) (i := 0) dX12_order_0 rfl rfl rfl ?_
  refine aw_iconst (n := 2) (v := 0) dX12_order_1 rfl (by decide) ?_
  obtain ⟨D_1, e_D_1, h⟩ := Ok.let_ h
  refine aw_putI (n := 5) (j := 2) hG.1 fl_RX12_157 (sF_88 hS) rfl e_D_1 dX12_order_2 rfl ?_
  refine aw_aload_n (n := 6) (i := 0) dX12_order_5 rfl rfl rfl ?_
  refine aw_aload_n (n := 7) (i := 0) dX12_order_6 rfl rfl rfl ?_
  refine aw_getR (n := 10) (j := 29) (r := 107) hG.1 fl_RX12_79 (sF_88 hS) rfl dX12_order_7 rfl ?_
  refine aw_cVi (M := M_X12_order) (n := 13) (As := [.ref 107]) (rest := []) hG.1 lk_RX12_319 rfl rfl (sF_88 hS) (c_X12_numberOf hG hS (h := Ok.bi h) (sF_107 hS)) (by decide) (Nat.le_of_ble_eq_true rfl) (by decide) (by decide) dX12_order_10 rfl (fun y_2 D_3 h => ?_)
  exact aw_iret rfl (by decide) (by decide) dX12_order_13 ⟨_, rfl, rfl, (Ok.dn h :)⟩
theorem dX12_smellOf_0 : decode cX12_smellOf 0 = .ok (.aload_n 0, 1) := by decide +kernel
theorem dX12_smellOf_1 : decode cX12_smellOf 1 = .ok (.getfield 51, 3) := by decide +kernel
theorem dX12_smellOf_4 : decode cX12_smellOf 4 = .ok (.iload_n 1, 1) := by decide +kernel
theorem dX12_smellOf_5 : decode cX12_smellOf 5 = .ok (.iaload, 1) := by decide +kernel
theorem dX12_smellOf_6 : decode cX12_smellOf 6 = .ok (.istore 5, 2) := by decide +kernel
theorem dX12_smellOf_8 : decode cX12_smellOf 8 = .ok (.aload_n 0, 1) := by decide +kernel
theorem dX12_smellOf_9 : decode cX12_smellOf 9 = .ok (.getfield 76, 3) := by decide +kernel
theorem dX12_smellOf_12 : decode cX12_smellOf 12 = .ok (.iload_n 1, 1) := by decide +kernel
theorem dX12_smellOf_13 : decode cX12_smellOf 13 = .ok (.iaload, 1) := by decide +kernel
theorem dX12_smellOf_14 : decode cX12_smellOf 14 = .ok (.iconst 1, 1) := by decide +kernel
theorem dX12_smellOf_15 : decode cX12_smellOf 15 = .ok (.if_icmp .eq 48, 3) := by decide +kernel
theorem dX12_smellOf_18 : decode cX12_smellOf 18 = .ok (.aload_n 0, 1) := by decide +kernel
theorem dX12_smellOf_19 : decode cX12_smellOf 19 = .ok (.getfield 306, 3) := by decide +kernel
theorem dX12_smellOf_22 : decode cX12_smellOf 22 = .ok (.aload_n 0, 1) := by decide +kernel
theorem dX12_smellOf_23 : decode cX12_smellOf 23 = .ok (.getfield 33, 3) := by decide +kernel
theorem dX12_smellOf_26 : decode cX12_smellOf 26 = .ok (.iload 5, 2) := by decide +kernel
theorem dX12_smellOf_28 : decode cX12_smellOf 28 = .ok (.iaload, 1) := by decide +kernel
theorem dX12_smellOf_29 : decode cX12_smellOf 29 = .ok (.aload_n 0, 1) := by decide +kernel
theorem dX12_smellOf_30 : decode cX12_smellOf 30 = .ok (.getfield 36, 3) := by decide +kernel
theorem dX12_smellOf_33 : decode cX12_smellOf 33 = .ok (.iload 5, 2) := by decide +kernel
theorem dX12_smellOf_35 : decode cX12_smellOf 35 = .ok (.iaload, 1) := by decide +kernel
theorem dX12_smellOf_36 : decode cX12_smellOf 36 = .ok (.invokestatic 160, 3) := by decide +kernel
theorem dX12_smellOf_39 : decode cX12_smellOf 39 = .ok (.ifCond .eq 24, 3) := by decide +kernel
theorem dX12_smellOf_42 : decode cX12_smellOf 42 = .ok (.iload_n 3, 1) := by decide +kernel
theorem dX12_smellOf_43 : decode cX12_smellOf 43 = .ok (.aload_n 0, 1) := by decide +kernel
theorem dX12_smellOf_44 : decode cX12_smellOf 44 = .ok (.getfield 39, 3) := by decide +kernel
theorem dX12_smellOf_47 : decode cX12_smellOf 47 = .ok (.iload 5, 2) := by decide +kernel
theorem dX12_smellOf_49 : decode cX12_smellOf 49 = .ok (.iaload, 1) := by decide +kernel
theorem dX12_smellOf_50 : decode cX12_smellOf 50 = .ok (.aload_n 0, 1) := by decide +kernel
theorem dX12_smellOf_51 : decode cX12_smellOf 51 = .ok (.getfield 42, 3) := by decide +kernel
theorem dX12_smellOf_54 : decode cX12_smellOf 54 = .ok (.iload 5, 2) := by decide +kernel
theorem dX12_smellOf_56 : decode cX12_smellOf 56 = .ok (.iaload, 1) := by decide +kernel
theorem dX12_smellOf_57 : decode cX12_smellOf 57 = .ok (.invokestatic 160, 3) := by decide +kernel
theorem dX12_smellOf_60 : decode cX12_smellOf 60 = .ok (.ifCond .ne 5, 3) := by decide +kernel
theorem dX12_smellOf_63 : decode cX12_smellOf 63 = .ok (.iconst 0, 1) := by decide +kernel
theorem dX12_smellOf_64 : decode cX12_smellOf 64 = .ok (.ireturn, 1) := by decide +kernel
theorem dX12_smellOf_65 : decode cX12_smellOf 65 = .ok (.iload_n 2, 1) := by decide +kernel
theorem dX12_smellOf_66 : decode cX12_smellOf 66 = .ok (.aload_n 0, 1) := by decide +kernel
theorem dX12_smellOf_67 : decode cX12_smellOf 67 = .ok (.getfield 27, 3) := by decide +kernel
theorem dX12_smellOf_70 : decode cX12_smellOf 70 = .ok (.iconst 0, 1) := by decide +kernel
theorem dX12_smellOf_71 : decode cX12_smellOf 71 = .ok (.iaload, 1) := by decide +kernel
theorem dX12_smellOf_72 : decode cX12_smellOf 72 = .ok (.irem, 1) := by decide +kernel
theorem dX12_smellOf_73 : decode cX12_smellOf 73 = .ok (.aload_n 0, 1) := by decide +kernel
theorem dX12_smellOf_74 : decode cX12_smellOf 74 = .ok (.getfield 54, 3) := by decide +kernel
theorem dX12_smellOf_77 : decode cX12_smellOf 77 = .ok (.iload_n 1, 1) := by decide +kernel
theorem dX12_smellOf_78 : decode cX12_smellOf 78 = .ok (.iaload, 1) := by decide +kernel
theorem dX12_smellOf_79 : decode cX12_smellOf 79 = .ok (.aload_n 0, 1) := by decide +kernel
theorem dX12_smellOf_80 : decode cX12_smellOf 80 = .ok (.getfield 27, 3) := by decide +kernel
theorem dX12_smellOf_83 : decode cX12_smellOf 83 = .ok (.iconst 0, 1) := by decide +kernel
theorem dX12_smellOf_84 : decode cX12_smellOf 84 = .ok (.iaload, 1) := by decide +kernel
theorem dX12_smellOf_85 : decode cX12_smellOf 85 = .ok (.irem, 1) := by decide +kernel
theorem dX12_smellOf_86 : decode cX12_smellOf 86 = .ok (.isub, 1) := by decide +kernel
theorem dX12_smellOf_87 : decode cX12_smellOf 87 = .ok (.istore 6, 2) := by decide +kernel
theorem dX12_smellOf_89 : decode cX12_smellOf 89 = .ok (.iload_n 2, 1) := by decide +kernel
theorem dX12_smellOf_90 : decode cX12_smellOf 90 = .ok (.aload_n 0, 1) := by decide +kernel
theorem dX12_smellOf_91 : decode cX12_smellOf 91 = .ok (.getfield 27, 3) := by decide +kernel
theorem dX12_smellOf_94 : decode cX12_smellOf 94 = .ok (.iconst 0, 1) := by decide +kernel
theorem dX12_smellOf_95 : decode cX12_smellOf 95 = .ok (.iaload, 1) := by decide +kernel
theorem dX12_smellOf_96 : decode cX12_smellOf 96 = .ok (.idiv, 1) := by decide +kernel
theorem dX12_smellOf_97 : decode cX12_smellOf 97 = .ok (.aload_n 0, 1) := by decide +kernel
theorem dX12_smellOf_98 : decode cX12_smellOf 98 = .ok (.getfield 54, 3) := by decide +kernel
theorem dX12_smellOf_101 : decode cX12_smellOf 101 = .ok (.iload_n 1, 1) := by decide +kernel
theorem dX12_smellOf_102 : decode cX12_smellOf 102 = .ok (.iaload, 1) := by decide +kernel
theorem dX12_smellOf_103 : decode cX12_smellOf 103 = .ok (.aload_n 0, 1) := by decide +kernel
theorem dX12_smellOf_104 : decode cX12_smellOf 104 = .ok (.getfield 27, 3) := by decide +kernel
theorem dX12_smellOf_107 : decode cX12_smellOf 107 = .ok (.iconst 0, 1) := by decide +kernel
theorem dX12_smellOf_108 : decode cX12_smellOf 108 = .ok (.iaload, 1) := by decide +kernel
theorem dX12_smellOf_109 : decode cX12_smellOf 109 = .ok (.idiv, 1) := by decide +kernel
theorem dX12_smellOf_110 : decode cX12_smellOf 110 = .ok (.isub, 1) := by decide +kernel
theorem dX12_smellOf_111 : decode cX12_smellOf 111 = .ok (.istore 7, 2) := by decide +kernel
theorem dX12_smellOf_113 : decode cX12_smellOf 113 = .ok (.iload 4, 2) := by decide +kernel
theorem dX12_smellOf_115 : decode cX12_smellOf 115 = .ok (.ifCond .ne 7, 3) := by decide +kernel
theorem dX12_smellOf_118 : decode cX12_smellOf 118 = .ok (.iconst 0, 1) := by decide +kernel
theorem dX12_smellOf_119 : decode cX12_smellOf 119 = .ok (.goto 40, 3) := by decide +kernel
theorem dX12_smellOf_122 : decode cX12_smellOf 122 = .ok (.iload 4, 2) := by decide +kernel
theorem dX12_smellOf_124 : decode cX12_smellOf 124 = .ok (.iconst 1, 1) := by decide +kernel
theorem dX12_smellOf_125 : decode cX12_smellOf 125 = .ok (.if_icmp .ne 9, 3) := by decide +kernel
theorem dX12_smellOf_128 : decode cX12_smellOf 128 = .ok (.iload 7, 2) := by decide +kernel
theorem dX12_smellOf_130 : decode cX12_smellOf 130 = .ok (.ineg, 1) := by decide +kernel
theorem dX12_smellOf_131 : decode cX12_smellOf 131 = .ok (.goto 28, 3) := by decide +kernel
theorem dX12_smellOf_134 : decode cX12_smellOf 134 = .ok (.iload 4, 2) := by decide +kernel
theorem dX12_smellOf_136 : decode cX12_smellOf 136 = .ok (.iconst 2, 1) := by decide +kernel
theorem dX12_smellOf_137 : decode cX12_smellOf 137 = .ok (.if_icmp .ne 8, 3) := by decide +kernel
theorem dX12_smellOf_140 : decode cX12_smellOf 140 = .ok (.iload 6, 2) := by decide +kernel
theorem dX12_smellOf_142 : decode cX12_smellOf 142 = .ok (.goto 17, 3) := by decide +kernel
theorem dX12_smellOf_145 : decode cX12_smellOf 145 = .ok (.iload 4, 2) := by decide +kernel
theorem dX12_smellOf_147 : decode cX12_smellOf 147 = .ok (.iconst 3, 1) := by decide +kernel
theorem dX12_smellOf_148 : decode cX12_smellOf 148 = .ok (.if_icmp .ne 8, 3) := by decide +kernel
theorem dX12_smellOf_151 : decode cX12_smellOf 151 = .ok (.iload 7, 2) := by decide +kernel
theorem dX12_smellOf_153 : decode cX12_smellOf 153 = .ok (.goto 6, 3) := by decide +kernel
theorem dX12_smellOf_156 : decode cX12_smellOf 156 = .ok (.iload 6, 2) := by decide +kernel
theorem dX12_smellOf_158 : decode cX12_smellOf 158 = .ok (.ineg, 1) := by decide +kernel
theorem dX12_smellOf_159 : decode cX12_smellOf 159 = .ok (.istore 8, 2) := by decide +kernel
theorem dX12_smellOf_161 : decode cX12_smellOf 161 = .ok (.iload 8, 2) := by decide +kernel
theorem dX12_smellOf_163 : decode cX12_smellOf 163 = .ok (.ineg, 1) := by decide +kernel
theorem dX12_smellOf_164 : decode cX12_smellOf 164 = .ok (.aload_n 0, 1) := by decide +kernel
theorem dX12_smellOf_165 : decode cX12_smellOf 165 = .ok (.getfield 27, 3) := by decide +kernel
theorem dX12_smellOf_168 : decode cX12_smellOf 168 = .ok (.bipush 8, 2) := by decide +kernel
theorem dX12_smellOf_170 : decode cX12_smellOf 170 = .ok (.iaload, 1) := by decide +kernel
theorem dX12_smellOf_171 : decode cX12_smellOf 171 = .ok (.if_icmp .le 5, 3) := by decide +kernel
theorem dX12_smellOf_174 : decode cX12_smellOf 174 = .ok (.iconst 0, 1) := by decide +kernel
theorem dX12_smellOf_175 : decode cX12_smellOf 175 = .ok (.ireturn, 1) := by decide +kernel
theorem dX12_smellOf_176 : decode cX12_smellOf 176 = .ok (.aload_n 0, 1) := by decide +kernel
theorem dX12_smellOf_177 : decode cX12_smellOf 177 = .ok (.getfield 30, 3) := by decide +kernel
theorem dX12_smellOf_180 : decode cX12_smellOf 180 = .ok (.iload 5, 2) := by decide +kernel
theorem dX12_smellOf_182 : decode cX12_smellOf 182 = .ok (.iaload, 1) := by decide +kernel
theorem dX12_smellOf_183 : decode cX12_smellOf 183 = .ok (.aload_n 0, 1) := by decide +kernel
theorem dX12_smellOf_184 : decode cX12_smellOf 184 = .ok (.getfield 76, 3) := by decide +kernel
theorem dX12_smellOf_187 : decode cX12_smellOf 187 = .ok (.iload_n 1, 1) := by decide +kernel
theorem dX12_smellOf_188 : decode cX12_smellOf 188 = .ok (.iaload, 1) := by decide +kernel
theorem dX12_smellOf_189 : decode cX12_smellOf 189 = .ok (.iconst 2, 1) := by decide +kernel
theorem dX12_smellOf_190 : decode cX12_smellOf 190 = .ok (.if_icmp .ne 7, 3) := by decide +kernel
theorem dX12_smellOf_193 : decode cX12_smellOf 193 = .ok (.iconst 3, 1) := by decide +kernel
theorem dX12_smellOf_194 : decode cX12_smellOf 194 = .ok (.goto 4, 3) := by decide +kernel
theorem dX12_smellOf_197 : decode cX12_smellOf 197 = .ok (.iconst 1, 1) := by decide +kernel
theorem dX12_smellOf_198 : decode cX12_smellOf 198 = .ok (.imul, 1) := by decide +kernel
theorem dX12_smellOf_199 : decode cX12_smellOf 199 = .ok (.aload_n 0, 1) := by decide +kernel
theorem dX12_smellOf_200 : decode cX12_smellOf 200 = .ok (.getfield 27, 3) := by decide +kernel
theorem dX12_smellOf_203 : decode cX12_smellOf 203 = .ok (.bipush 6, 2) := by decide +kernel
theorem dX12_smellOf_205 : decode cX12_smellOf 205 = .ok (.iaload, 1) := by decide +kernel
theorem dX12_smellOf_206 : decode cX12_smellOf 206 = .ok (.iload 6, 2) := by decide +kernel
theorem dX12_smellOf_208 : decode cX12_smellOf 208 = .ok (.invokestatic 323, 3) := by decide +kernel
theorem dX12_smellOf_211 : decode cX12_smellOf 211 = .ok (.iload 7, 2) := by decide +kernel
theorem dX12_smellOf_213 : decode cX12_smellOf 213 = .ok (.invokestatic 323, 3) := by decide +kernel
theorem dX12_smellOf_216 : decode cX12_smellOf 216 = .ok (.iadd, 1) := by decide +kernel
theorem dX12_smellOf_217 : decode cX12_smellOf 217 = .ok (.imul, 1) := by decide +kernel
theorem dX12_smellOf_218 : decode cX12_smellOf 218 = .ok (.isub, 1) := by decide +kernel
theorem dX12_smellOf_219 : decode cX12_smellOf 219 = .ok (.aload_n 0, 1) := by decide +kernel
theorem dX12_smellOf_220 : decode cX12_smellOf 220 = .ok (.getfield 27, 3) := by decide +kernel
theorem dX12_smellOf_223 : decode cX12_smellOf 223 = .ok (.bipush 7, 2) := by decide +kernel
theorem dX12_smellOf_225 : decode cX12_smellOf 225 = .ok (.iaload, 1) := by decide +kernel
theorem dX12_smellOf_226 : decode cX12_smellOf 226 = .ok (.iload 8, 2) := by decide +kernel
theorem dX12_smellOf_228 : decode cX12_smellOf 228 = .ok (.imul, 1) := by decide +kernel
theorem dX12_smellOf_229 : decode cX12_smellOf 229 = .ok (.iadd, 1) := by decide +kernel
theorem dX12_smellOf_230 : decode cX12_smellOf 230 = .ok (.istore 9, 2) := by decide +kernel
theorem dX12_smellOf_232 : decode cX12_smellOf 232 = .ok (.iconst 0, 1) := by decide +kernel
theorem dX12_smellOf_233 : decode cX12_smellOf 233 = .ok (.iload 9, 2) := by decide +kernel
theorem dX12_smellOf_235 : decode cX12_smellOf 235 = .ok (.invokestatic 326, 3) := by decide +kernel
theorem dX12_smellOf_238 : decode cX12_smellOf 238 = .ok (.ireturn, 1) := by decide +kernel
def J_X12_smellOf_198 (v6 : Int32) (v7 : Int32) (v8 : Int32) (t0 : Int32) (t1 : Int32) (D : aD) : Option (Int32 × aD) :=
  aGd (aIn 6 32) (aGd (aIn 7 32) (aLet (((t1 * t0) - ((gI D 91 (6 : Int32).toNatClampNeg) * ((if 0 ≤ v6 then v6 else 0 - v6) + (if 0 ≤ v7 then v7 else 0 - v7)))) + ((gI D 91 (7 : Int32).toNatClampNeg) * v8)) (fun v9_29 => some (if 0 < v9_29 then v9_29 else 0, D))))
def J_X12_smellOf_159 (v1 : Int32) (v5 : Int32) (v6 : Int32) (v7 : Int32) (t0 : Int32) (D : aD) : Option (Int32 × aD) :=
  aGd (aIn 8 32) (if -t0 ≤ gI D 91 (8 : Int32).toNatClampNeg then (aGd (aIn v5 12) (aGd (aIn v1 13) (if gI D 106 v1.toNatClampNeg ≠ 2 then (J_X12_smellOf_198 v6 v7 t0 1 (gI D 92 v5.toNatClampNeg) D) else (J_X12_smellOf_198 v6 v7 t0 3 (gI D 92 v5.toNatClampNeg) D)))) else (some (0, D)))
def f_X12_smellOf (v1 : Int32) (v2 : Int32) (v3 : Int32) (v4 : Int32) (D : aD) : Option (Int32 × aD) :=
  aGd (aIn v1 26) (aLet (gI D 99 v1.toNatClampNeg) (fun v5_2 => aGd (aIn v1 13) (if gI D 106 v1.toNatClampNeg = 1 then (some (0, D)) else (aGd (aIn v5_2 12) (aGd (aIn v5_2 12) (aBi (f_X12_isIn (gI D 88 32) (gI D 93 v5_2.toNatClampNeg) (gI D 94 v5_2.toNatClampNeg) D) (fun y_6 D_7 => if y_6 = 0 then (some (0, D_7)) else (aGd (aIn v5_2 12) (aGd (aIn v5_2 12) (aBi (f_X12_isIn v3 (gI D_7 95 v5_2.toNatClampNeg) (gI D_7 96 v5_2.toNatClampNeg) D_7) (fun y_10 D_11 => if y_10 ≠ 0 then (aGd (aIn 0 32) (aGd (aNz (gI D_11 91 (0 : Int32).toNatClampNeg)) (aGd (aIn v1 26) (aGd (aIn 0 32) (aGd (aNz (gI D_11 91 (0 : Int32).toNatClampNeg)) (aLet ((v2 - v2 / (gI D_11 91 (0 : Int32).toNatClampNeg) * (gI D_11 91 (0 : Int32).toNatClampNeg)) - ((gI D_11 100 v1.toNatClampNeg) - (gI D_11 100 v1.toNatClampNeg) / (gI D_11 91 (0 : Int32).toNatClampNeg) * (gI D_11 91 (0 : Int32).toNatClampNeg))) (fun v6_17 => aGd (aIn 0 32) (aGd (aNz (gI D_11 91 (0 : Int32).toNatClampNeg)) (aGd (aIn v1 26) (aGd (aIn 0 32) (aGd (aNz (gI D_11 91 (0 : Int32).toNatClampNeg)) (aLet ((v2 / (gI D_11 91 (0 : Int32).toNatClampNeg)) - ((gI D_11 100 v1.toNatClampNeg) / (gI D_11 91 (0 : Int32).toNatClampNeg))) (fun v7_23 => if v4 ≠ 0 then (if v4 ≠ 1 then (if v4 ≠ 2 then (if v4 ≠ 3 then (J_X12_smellOf_159 v1 v5_2 v6_17 v7_23 (-v6_17) D_11) else (J_X12_smellOf_159 v1 v5_2 v6_17 v7_23 v7_23 D_11)) else (J_X12_smellOf_159 v1 v5_2 v6_17 v7_23 v6_17 D_11)) else (J_X12_smellOf_159 v1 v5_2 v6_17 v7_23 (-v7_23) D_11)) else (J_X12_smellOf_159 v1 v5_2 v6_17 v7_23 0 D_11)))))))))))))) else (some (0, D_11)))))))))))))
set_option maxRecDepth 100000 in
set_option maxHeartbeats 800000 in
theorem c_X12_smellOf {G : aG} (hG : gOK G) {shp : List aSh} (hS : aShp shp) {fr : Option Nat} {v1 : Int32} {v2 : Int32} {v3 : Int32} {v4 : Int32} {D : aD} {K : Int32 → aD → Prop} (h : Ok2 (f_X12_smellOf v1 v2 v3 v4 D) K) : AC G (aRm 2 0 0) M_X12_smellOf [.ref 88, .int v1, .int v2, .int v3, .int v4] fr shp D (aQi shp K) := by
  replace h := Ok2.ok h
  unfold f_X12_smellOf at h
  refine AC.of (al := [some (.ref 88), some (.int v1), some (.int v2), some (.int v3), some (.int v4), none, none, none, none, none]) (r := 5) (by decide) (Nat.le_of_ble_eq_true rfl) rfl ?_
  have hJ_198 : ∀ (v6 : Int32) (v7 : Int32) (v8 : Int32) (t0 : Int32) (t1 : Int32) (D : aD), Ok (J_X12_smellOf_198 v6 v7 v8 t0 t1 D) (fun r => K r.1 r.2) → AW G (aRm 2 0 0) M_X12_smellOf fr 0 0 198 [some (.ref 88), none, none, none, none, none, some (.int v6), some (.int v7), some (.int v8), none] [.int t0, .int t1] shp D (aQi shp K) := by
    intro v6 v7 v8 t0 t1 D h
    unfold J_X12_smellOf_198 at h
    refine aw_imul (n := 199) dX12_smellOf_198 rfl ?_
    refine aw_aload_n (n := 200) (i := 0) dX12_smellOf_199 rfl rfl rfl ?_
    refine aw_getR (n := 203) (j := 3) (r := 91) hG.1 fl_RX12_27 (sF_88 hS) rfl dX12_smellOf_200 rfl ?_
    refine aw_bipush (n := 205) (v := 6) dX12_smellOf_203 rfl (by decide) ?_
    obtain ⟨g_27, h⟩ := Ok.gd h
    refine aw_iaload (n := 206) hG.1 (sF_91 hS) (aIn_in g_27) dX12_smellOf_205 rfl ?_
    refine aw_iload (n := 208) (i := 6) dX12_smellOf_206 rfl rfl ?_
    refine aw_abs (M := M_X12_smellOf) (n := 211) lm_RX12_323 mm_abs.1 mm_abs.2.1 mm_abs.2.2 (by decide) (Nat.le_of_ble_eq_true rfl) (by decide) (by decide) dX12_smellOf_208 rfl ?_
    refine aw_iload (n := 213) (i := 7) dX12_smellOf_211 rfl rfl ?_
    refine aw_abs (M := M_X12_smellOf) (n := 216) lm_RX12_323 mm_abs.1 mm_abs.2.1 mm_abs.2.2 (by decide) (Nat.le_of_ble_eq_true rfl) (by decide) (by decide) dX12_smellOf_213 rfl ?_
    refine aw_iadd (n := 217) dX12_smellOf_216 rfl ?_
    refine aw_imul (n := 218) dX12_smellOf_217 rfl ?_
    refine aw_isub (n := 219) dX12_smellOf_218 rfl ?_
    refine aw_aload_n (n := 220) (i := 0) dX12_smellOf_219 rfl rfl rfl ?_
    refine aw_getR (n := 223) (j := 3) (r := 91) hG.1 fl_RX12_27 (sF_88 hS) rfl dX12_smellOf_220 rfl ?_
    refine aw_bipush (n := 225) (v := 7) dX12_smellOf_223 rfl (by decide) ?_
    obtain ⟨g_28, h⟩ := Ok.gd h
    refine aw_iaload (n := 226) hG.1 (sF_91 hS) (aIn_in g_28) dX12_smellOf_225 rfl ?_
    refine aw_iload (n := 228) (i := 8) dX12_smellOf_226 rfl rfl ?_
    refine aw_imul (n := 229) dX12_smellOf_228 rfl ?_
    refine aw_iadd (n := 230) dX12_smellOf_229 rfl ?_
    obtain ⟨v9_29, e_v9_29, h⟩ := Ok.let_ h
    refine aw_istore (n := 232) (i := 9) (al' := [some (.ref 88), none, none, none, none, none, some (.int v6), some (.int v7), some (.int v8), some (.int v9_29)]) dX12_smellOf_230 rfl e_v9_29 (by decide) rfl ?_
    refine aw_iconst (n := 233) (v := 0) dX12_smellOf_232 rfl (by decide) ?_
    refine aw_iload (n := 235) (i := 9) dX12_smellOf_233 rfl rfl ?_
    refine aw_max (M := M_X12_smellOf) (n := 238) lm_RX12_326 mm_max.1 mm_max.2.1 mm_max.2.2 (by decide) (Nat.le_of_ble_eq_true rfl) (by decide) (by decide) dX12_smellOf_235 rfl ?_
    exact aw_iret rfl (by decide) (by decide) dX12_smellOf_238 ⟨_, rfl, rfl, (Ok.dn h :)⟩
  have hJ_159 : ∀ (v1 : Int32) (v5 : Int32) (v6 : Int32) (v7 : Int32) (t0 : Int32) (D : aD), Ok (J_X12_smellOf_159 v1 v5 v6 v7 t0 D) (fun r => K r.1 r.2) → AW G (aRm 2 0 0) M_X12_smellOf fr 0 0 159 [some (.ref 88), some (.int v1), none, none, none, some (.int v5), some (.int v6), some (.int v7), none, none] [.int t0] shp D (aQi shp K) := by
    intro v1 v5 v6 v7 t0 D h
    unfold J_X12_smellOf_159 at h
    refine aw_istore (n := 161) (i := 8) (al' := [some (.ref 88), some (.int v1), none, none, none, some (.int v5), some (.int v6), some (.int v7), some (.int t0), none]) dX12_smellOf_159 rfl rfl (by decide) rfl ?_
    refine aw_iload (n := 163) (i := 8) dX12_smellOf_161 rfl rfl ?_
    refine aw_ineg (n := 164) dX12_smellOf_163 rfl ?_
    refine aw_aload_n (n := 165) (i := 0) dX12_smellOf_164 rfl rfl rfl ?_
    refine aw_getR (n := 168) (j := 3) (r := 91) hG.1 fl_RX12_27 (sF_88 hS) rfl dX12_smellOf_165 rfl ?_
    refine aw_bipush (n := 170) (v := 8) dX12_smellOf_168 rfl (by decide) ?_
    obtain ⟨g_24, h⟩ := Ok.gd h
    refine aw_iaload (n := 171) hG.1 (sF_91 hS) (aIn_in g_24) dX12_smellOf_170 rfl ?_
    refine aw_icmp_le (n := 174) (tgt := 176) dX12_smellOf_171 rfl (by decide) (fun c => ?_) (fun c => ?_)
    · replace h := Ok.ift h c
      refine aw_aload_n (n := 177) (i := 0) dX12_smellOf_176 rfl rfl rfl ?_
      refine aw_getR (n := 180) (j := 4) (r := 92) hG.1 fl_RX12_30 (sF_88 hS) rfl dX12_smellOf_177 rfl ?_
      refine aw_iload (n := 182) (i := 5) dX12_smellOf_180 rfl rfl ?_
      obtain ⟨g_25, h⟩ := Ok.gd h
      refine aw_iaload (n := 183) hG.1 (sF_92 hS) (aIn_in g_25) dX12_smellOf_182 rfl ?_
      refine aw_aload_n (n := 184) (i := 0) dX12_smellOf_183 rfl rfl rfl ?_
      refine aw_getR (n := 187) (j := 28) (r := 106) hG.1 fl_RX12_76 (sF_88 hS) rfl dX12_smellOf_184 rfl ?_
      refine aw_iload_n (n := 188) (i := 1) dX12_smellOf_187 rfl rfl rfl ?_
      obtain ⟨g_26, h⟩ := Ok.gd h
      refine aw_iaload (n := 189) hG.1 (sF_106 hS) (aIn_in g_26) dX12_smellOf_188 rfl ?_
      refine aw_iconst (n := 190) (v := 2) dX12_smellOf_189 rfl (by decide) ?_
      refine aw_icmp_ne (n := 193) (tgt := 197) dX12_smellOf_190 rfl (by decide) (fun c => ?_) (fun c => ?_)
      · replace h := Ok.ift h c
        refine aw_iconst (n := 198) (v := 1) dX12_smellOf_197 rfl (by decide) ?_
        exact aw_le' (hJ_198 v6 v7 t0 1 (gI D 92 v5.toNatClampNeg) D h) ⟨rfl, ⟨rfl, ⟨rfl, ⟨rfl, trivial⟩⟩⟩⟩
      · replace h := Ok.iffn h c
        refine aw_iconst (n := 194) (v := 3) dX12_smellOf_193 rfl (by decide) ?_
        refine aw_goto (tgt := 198) dX12_smellOf_194 (by decide) ?_
        exact aw_le' (hJ_198 v6 v7 t0 3 (gI D 92 v5.toNatClampNeg) D h) ⟨rfl, ⟨rfl, ⟨rfl, ⟨rfl, trivial⟩⟩⟩⟩
    · replace h := Ok.iff h c
      refine aw_iconst (n := 175) (v := 0) dX12_smellOf_174 rfl (by decide) ?_
      exact aw_iret rfl (by decide) (by decide) dX12_smellOf_175 ⟨_, rfl, rfl, (Ok.dn h :)⟩
  refine aw_aload_n (n := 1) (i := 0) dX12_smellOf_0 rfl rfl rfl ?_
  refine aw_getR (n := 4) (j := 11) (r := 99) hG.1 fl_RX12_51 (sF_88 hS) rfl dX12_smellOf_1 rfl ?_
  refine aw_iload_n (n := 5) (i := 1) dX12_smellOf_4 rfl rfl rfl ?_
  obtain ⟨g_1, h⟩ := Ok.gd h
  refine aw_iaload (n := 6) hG.1 (sF_99 hS) (aIn_in g_1) dX12_smellOf_5 rfl ?_
  obtain ⟨v5_2, e_v5_2, h⟩ := Ok.let_ h
  refine aw_istore (n := 8) (i := 5) (al' := [some (.ref 88), some (.int v1), some (.int v2), some (.int v3), some (.int v4), some (.int v5_2), none, none, none, none]) dX12_smellOf_6 rfl e_v5_2 (by decide) rfl ?_
  refine aw_aload_n (n := 9) (i := 0) dX12_smellOf_8 rfl rfl rfl ?_
  refine aw_getR (n := 12) (j := 28) (r := 106) hG.1 fl_RX12_76 (sF_88 hS) rfl dX12_smellOf_9 rfl ?_
  refine aw_iload_n (n := 13) (i := 1) dX12_smellOf_12 rfl rfl rfl ?_
  obtain ⟨g_3, h⟩ := Ok.gd h
  refine aw_iaload (n := 14) hG.1 (sF_106 hS) (aIn_in g_3) dX12_smellOf_13 rfl ?_
  refine aw_iconst (n := 15) (v := 1) dX12_smellOf_14 rfl (by decide) ?_
  refine aw_icmp_eq (n := 18) (tgt := 63) dX12_smellOf_15 rfl (by decide) (fun c => ?_) (fun c => ?_)
  · replace h := Ok.ift h c
    refine aw_iconst (n := 64) (v := 0) dX12_smellOf_63 rfl (by decide) ?_
    exact aw_iret rfl (by decide) (by decide) dX12_smellOf_64 ⟨_, rfl, rfl, (Ok.dn h :)⟩
  · replace h := Ok.iff h c
    refine aw_aload_n (n := 19) (i := 0) dX12_smellOf_18 rfl rfl rfl ?_
    refine aw_getI (n := 22) (j := 32) hG.1 fl_RX12_306 (sF_88 hS) rfl dX12_smellOf_19 rfl ?_
    refine aw_aload_n (n := 23) (i := 0) dX12_smellOf_22 rfl rfl rfl ?_
    refine aw_getR (n := 26) (j := 5) (r := 93) hG.1 fl_RX12_33 (sF_88 hS) rfl dX12_smellOf_23 rfl ?_
    refine aw_iload (n := 28) (i := 5) dX12_smellOf_26 rfl rfl ?_
    obtain ⟨g_4, h⟩ := Ok.gd h
    refine aw_iaload (n := 29) hG.1 (sF_93 hS) (aIn_in g_4) dX12_smellOf_28 rfl ?_
    refine aw_aload_n (n := 30) (i := 0) dX12_smellOf_29 rfl rfl rfl ?_
    refine aw_getR (n := 33) (j := 6) (r := 94) hG.1 fl_RX12_36 (sF_88 hS) rfl dX12_smellOf_30 rfl ?_
    refine aw_iload (n := 35) (i := 5) dX12_smellOf_33 rfl rfl ?_
    obtain ⟨g_5, h⟩ := Ok.gd h
    refine aw_iaload (n := 36) hG.1 (sF_94 hS) (aIn_in g_5) dX12_smellOf_35 rfl ?_
    refine aw_cSi (M := M_X12_smellOf) (n := 39) (As := [.int (gI D 88 32), .int (gI D 93 v5_2.toNatClampNeg), .int (gI D 94 v5_2.toNatClampNeg)]) (rest := []) lk_RX12_160 rfl rfl (c_X12_isIn hG hS (h := Ok.bi h)) (by decide) (Nat.le_of_ble_eq_true rfl) (by decide) (by decide) dX12_smellOf_36 rfl (fun y_6 D_7 h => ?_)
    refine aw_if_eq (n := 42) (tgt := 63) dX12_smellOf_39 rfl (by decide) (fun c => ?_) (fun c => ?_)
    · replace h := Ok.ift h c
      refine aw_iconst (n := 64) (v := 0) dX12_smellOf_63 rfl (by decide) ?_
      exact aw_iret rfl (by decide) (by decide) dX12_smellOf_64 ⟨_, rfl, rfl, (Ok.dn h :)⟩
    · replace h := Ok.iff h c
      refine aw_iload_n (n := 43) (i := 3) dX12_smellOf_42 rfl rfl rfl ?_
      refine aw_aload_n (n := 44) (i := 0) dX12_smellOf_43 rfl rfl rfl ?_
      refine aw_getR (n := 47) (j := 7) (r := 95) hG.1 fl_RX12_39 (sF_88 hS) rfl dX12_smellOf_44 rfl ?_
      refine aw_iload (n := 49) (i := 5) dX12_smellOf_47 rfl rfl ?_
      obtain ⟨g_8, h⟩ := Ok.gd h
      refine aw_iaload (n := 50) hG.1 (sF_95 hS) (aIn_in g_8) dX12_smellOf_49 rfl ?_
      refine aw_aload_n (n := 51) (i := 0) dX12_smellOf_50 rfl rfl rfl ?_
      refine aw_getR (n := 54) (j := 8) (r := 96) hG.1 fl_RX12_42 (sF_88 hS) rfl dX12_smellOf_51 rfl ?_
      refine aw_iload (n := 56) (i := 5) dX12_smellOf_54 rfl rfl ?_
      obtain ⟨g_9, h⟩ := Ok.gd h
      refine aw_iaload (n := 57) hG.1 (sF_96 hS) (aIn_in g_9) dX12_smellOf_56 rfl ?_
      refine aw_cSi (M := M_X12_smellOf) (n := 60) (As := [.int v3, .int (gI D_7 95 v5_2.toNatClampNeg), .int (gI D_7 96 v5_2.toNatClampNeg)]) (rest := []) lk_RX12_160 rfl rfl (c_X12_isIn hG hS (h := Ok.bi h)) (by decide) (Nat.le_of_ble_eq_true rfl) (by decide) (by decide) dX12_smellOf_57 rfl (fun y_10 D_11 h => ?_)
      refine aw_if_ne (n := 63) (tgt := 65) dX12_smellOf_60 rfl (by decide) (fun c => ?_) (fun c => ?_)
      · replace h := Ok.ift h c
        refine aw_iload_n (n := 66) (i := 2) dX12_smellOf_65 rfl rfl rfl ?_
        refine aw_aload_n (n := 67) (i := 0) dX12_smellOf_66 rfl rfl rfl ?_
        refine aw_getR (n := 70) (j := 3) (r := 91) hG.1 fl_RX12_27 (sF_88 hS) rfl dX12_smellOf_67 rfl ?_
        refine aw_iconst (n := 71) (v := 0) dX12_smellOf_70 rfl (by decide) ?_
        obtain ⟨g_12, h⟩ := Ok.gd h
        refine aw_iaload (n := 72) hG.1 (sF_91 hS) (aIn_in g_12) dX12_smellOf_71 rfl ?_
        obtain ⟨g_13, h⟩ := Ok.gd h
        refine aw_irem (n := 73) dX12_smellOf_72 rfl (aNz_ne g_13) ?_
        refine aw_aload_n (n := 74) (i := 0) dX12_smellOf_73 rfl rfl rfl ?_
        refine aw_getR (n := 77) (j := 12) (r := 100) hG.1 fl_RX12_54 (sF_88 hS) rfl dX12_smellOf_74 rfl ?_
        refine aw_iload_n (n := 78) (i := 1) dX12_smellOf_77 rfl rfl rfl ?_
        obtain ⟨g_14, h⟩ := Ok.gd h
        refine aw_iaload (n := 79) hG.1 (sF_100 hS) (aIn_in g_14) dX12_smellOf_78 rfl ?_
        refine aw_aload_n (n := 80) (i := 0) dX12_smellOf_79 rfl rfl rfl ?_
        refine aw_getR (n := 83) (j := 3) (r := 91) hG.1 fl_RX12_27 (sF_88 hS) rfl dX12_smellOf_80 rfl ?_
        refine aw_iconst (n := 84) (v := 0) dX12_smellOf_83 rfl (by decide) ?_
        obtain ⟨g_15, h⟩ := Ok.gd h
        refine aw_iaload (n := 85) hG.1 (sF_91 hS) (aIn_in g_15) dX12_smellOf_84 rfl ?_
        obtain ⟨g_16, h⟩ := Ok.gd h
        refine aw_irem (n := 86) dX12_smellOf_85 rfl (aNz_ne g_16) ?_
        refine aw_isub (n := 87) dX12_smellOf_86 rfl ?_
        obtain ⟨v6_17, e_v6_17, h⟩ := Ok.let_ h
        refine aw_istore (n := 89) (i := 6) (al' := [some (.ref 88), some (.int v1), some (.int v2), some (.int v3), some (.int v4), some (.int v5_2), some (.int v6_17), none, none, none]) dX12_smellOf_87 rfl e_v6_17 (by decide) rfl ?_
        refine aw_iload_n (n := 90) (i := 2) dX12_smellOf_89 rfl rfl rfl ?_
        refine aw_aload_n (n := 91) (i := 0) dX12_smellOf_90 rfl rfl rfl ?_
        refine aw_getR (n := 94) (j := 3) (r := 91) hG.1 fl_RX12_27 (sF_88 hS) rfl dX12_smellOf_91 rfl ?_
        refine aw_iconst (n := 95) (v := 0) dX12_smellOf_94 rfl (by decide) ?_
        obtain ⟨g_18, h⟩ := Ok.gd h
        refine aw_iaload (n := 96) hG.1 (sF_91 hS) (aIn_in g_18) dX12_smellOf_95 rfl ?_
        obtain ⟨g_19, h⟩ := Ok.gd h
        refine aw_idiv (n := 97) dX12_smellOf_96 rfl (aNz_ne g_19) ?_
        refine aw_aload_n (n := 98) (i := 0) dX12_smellOf_97 rfl rfl rfl ?_
        refine aw_getR (n := 101) (j := 12) (r := 100) hG.1 fl_RX12_54 (sF_88 hS) rfl dX12_smellOf_98 rfl ?_
        refine aw_iload_n (n := 102) (i := 1) dX12_smellOf_101 rfl rfl rfl ?_
        obtain ⟨g_20, h⟩ := Ok.gd h
        refine aw_iaload (n := 103) hG.1 (sF_100 hS) (aIn_in g_20) dX12_smellOf_102 rfl ?_
        refine aw_aload_n (n := 104) (i := 0) dX12_smellOf_103 rfl rfl rfl ?_
        refine aw_getR (n := 107) (j := 3) (r := 91) hG.1 fl_RX12_27 (sF_88 hS) rfl dX12_smellOf_104 rfl ?_
        refine aw_iconst (n := 108) (v := 0) dX12_smellOf_107 rfl (by decide) ?_
        obtain ⟨g_21, h⟩ := Ok.gd h
        refine aw_iaload (n := 109) hG.1 (sF_91 hS) (aIn_in g_21) dX12_smellOf_108 rfl ?_
        obtain ⟨g_22, h⟩ := Ok.gd h
        refine aw_idiv (n := 110) dX12_smellOf_109 rfl (aNz_ne g_22) ?_
        refine aw_isub (n := 111) dX12_smellOf_110 rfl ?_
        obtain ⟨v7_23, e_v7_23, h⟩ := Ok.let_ h
        refine aw_istore (n := 113) (i := 7) (al' := [some (.ref 88), some (.int v1), some (.int v2), some (.int v3), some (.int v4), some (.int v5_2), some (.int v6_17), some (.int v7_23), none, none]) dX12_smellOf_111 rfl e_v7_23 (by decide) rfl ?_
        refine aw_iload (n := 115) (i := 4) dX12_smellOf_113 rfl rfl ?_
        refine aw_if_ne (n := 118) (tgt := 122) dX12_smellOf_115 rfl (by decide) (fun c => ?_) (fun c => ?_)
        · replace h := Ok.ift h c
          refine aw_iload (n := 124) (i := 4) dX12_smellOf_122 rfl rfl ?_
          refine aw_iconst (n := 125) (v := 1) dX12_smellOf_124 rfl (by decide) ?_
          refine aw_icmp_ne (n := 128) (tgt := 134) dX12_smellOf_125 rfl (by decide) (fun c => ?_) (fun c => ?_)
          · replace h := Ok.ift h c
            refine aw_iload (n := 136) (i := 4) dX12_smellOf_134 rfl rfl ?_
            refine aw_iconst (n := 137) (v := 2) dX12_smellOf_136 rfl (by decide) ?_
            refine aw_icmp_ne (n := 140) (tgt := 145) dX12_smellOf_137 rfl (by decide) (fun c => ?_) (fun c => ?_)
            · replace h := Ok.ift h c
              refine aw_iload (n := 147) (i := 4) dX12_smellOf_145 rfl rfl ?_
              refine aw_iconst (n := 148) (v := 3) dX12_smellOf_147 rfl (by decide) ?_
              refine aw_icmp_ne (n := 151) (tgt := 156) dX12_smellOf_148 rfl (by decide) (fun c => ?_) (fun c => ?_)
              · replace h := Ok.ift h c
                refine aw_iload (n := 158) (i := 6) dX12_smellOf_156 rfl rfl ?_
                refine aw_ineg (n := 159) dX12_smellOf_158 rfl ?_
                exact aw_le' (hJ_159 v1 v5_2 v6_17 v7_23 (-v6_17) D_11 h) ⟨rfl, ⟨rfl, ⟨rfl, ⟨rfl, ⟨rfl, trivial⟩⟩⟩⟩⟩
              · replace h := Ok.iffn h c
                refine aw_iload (n := 153) (i := 7) dX12_smellOf_151 rfl rfl ?_
                refine aw_goto (tgt := 159) dX12_smellOf_153 (by decide) ?_
                exact aw_le' (hJ_159 v1 v5_2 v6_17 v7_23 v7_23 D_11 h) ⟨rfl, ⟨rfl, ⟨rfl, ⟨rfl, ⟨rfl, trivial⟩⟩⟩⟩⟩
            · replace h := Ok.iffn h c
              refine aw_iload (n := 142) (i := 6) dX12_smellOf_140 rfl rfl ?_
              refine aw_goto (tgt := 159) dX12_smellOf_142 (by decide) ?_
              exact aw_le' (hJ_159 v1 v5_2 v6_17 v7_23 v6_17 D_11 h) ⟨rfl, ⟨rfl, ⟨rfl, ⟨rfl, ⟨rfl, trivial⟩⟩⟩⟩⟩
          · replace h := Ok.iffn h c
            refine aw_iload (n := 130) (i := 7) dX12_smellOf_128 rfl rfl ?_
            refine aw_ineg (n := 131) dX12_smellOf_130 rfl ?_
            refine aw_goto (tgt := 159) dX12_smellOf_131 (by decide) ?_
            exact aw_le' (hJ_159 v1 v5_2 v6_17 v7_23 (-v7_23) D_11 h) ⟨rfl, ⟨rfl, ⟨rfl, ⟨rfl, ⟨rfl, trivial⟩⟩⟩⟩⟩
        · replace h := Ok.iffn h c
          refine aw_iconst (n := 119) (v := 0) dX12_smellOf_118 rfl (by decide) ?_
          refine aw_goto (tgt := 159) dX12_smellOf_119 (by decide) ?_
          exact aw_le' (hJ_159 v1 v5_2 v6_17 v7_23 0 D_11 h) ⟨rfl, ⟨rfl, ⟨rfl, ⟨rfl, ⟨rfl, trivial⟩⟩⟩⟩⟩
      · replace h := Ok.iffn h c
        refine aw_iconst (n := 64) (v := 0) dX12_smellOf_63 rfl (by decide) ?_
        exact aw_iret rfl (by decide) (by decide) dX12_smellOf_64 ⟨_, rfl, rfl, (Ok.dn h :)⟩
theorem dX12_smell_0 : decode cX12_smell 0 = .ok (.aload_n 0, 1) := by decide +kernel
theorem dX12_smell_1 : decode cX12_smell 1 = .ok (.iconst 0, 1) := by decide +kernel
theorem dX12_smell_2 : decode cX12_smell 2 = .ok (.putfield 157, 3) := by decide +kernel
theorem dX12_smell_5 : decode cX12_smell 5 = .ok (.aload_n 0, 1) := by decide +kernel
theorem dX12_smell_6 : decode cX12_smell 6 = .ok (.iload_n 1, 1) := by decide +kernel
theorem dX12_smell_7 : decode cX12_smell 7 = .ok (.invokevirtual 316, 3) := by decide +kernel
theorem dX12_smell_10 : decode cX12_smell 10 = .ok (.ifCond .eq 26, 3) := by decide +kernel
theorem dX12_smell_13 : decode cX12_smell 13 = .ok (.aload_n 0, 1) := by decide +kernel
theorem dX12_smell_14 : decode cX12_smell 14 = .ok (.iload_n 2, 1) := by decide +kernel
theorem dX12_smell_15 : decode cX12_smell 15 = .ok (.iload_n 3, 1) := by decide +kernel
theorem dX12_smell_16 : decode cX12_smell 16 = .ok (.iload 4, 2) := by decide +kernel
theorem dX12_smell_18 : decode cX12_smell 18 = .ok (.invokevirtual 329, 3) := by decide +kernel
theorem dX12_smell_21 : decode cX12_smell 21 = .ok (.ifCond .eq 15, 3) := by decide +kernel
theorem dX12_smell_24 : decode cX12_smell 24 = .ok (.aload_n 0, 1) := by decide +kernel
theorem dX12_smell_25 : decode cX12_smell 25 = .ok (.iload_n 1, 1) := by decide +kernel
theorem dX12_smell_26 : decode cX12_smell 26 = .ok (.iload_n 2, 1) := by decide +kernel
theorem dX12_smell_27 : decode cX12_smell 27 = .ok (.iload_n 3, 1) := by decide +kernel
theorem dX12_smell_28 : decode cX12_smell 28 = .ok (.iload 4, 2) := by decide +kernel
theorem dX12_smell_30 : decode cX12_smell 30 = .ok (.invokevirtual 332, 3) := by decide +kernel
theorem dX12_smell_33 : decode cX12_smell 33 = .ok (.goto 8, 3) := by decide +kernel
theorem dX12_smell_36 : decode cX12_smell 36 = .ok (.aload_n 0, 1) := by decide +kernel
theorem dX12_smell_37 : decode cX12_smell 37 = .ok (.iconst 1, 1) := by decide +kernel
theorem dX12_smell_38 : decode cX12_smell 38 = .ok (.invokevirtual 290, 3) := by decide +kernel
theorem dX12_smell_41 : decode cX12_smell 41 = .ok (.ireturn, 1) := by decide +kernel
def f_X12_smell (v1 : Int32) (v2 : Int32) (v3 : Int32) (v4 : Int32) (D : aD) : Option (Int32 × aD) :=
  aLet (pI D 88 2 0) (fun D_1 => aBi (f_X12_isPlant v1 D_1) (fun y_2 D_3 => if y_2 = 0 then (aBi (f_X12_fail 1 D_3) (fun y_4 D_5 => some (y_4, D_5))) else (aBi (f_X12_isPlace v2 v3 v4 D_3) (fun y_6 D_7 => if y_6 = 0 then (aBi (f_X12_fail 1 D_7) (fun y_8 D_9 => some (y_8, D_9))) else (aBi (f_X12_smellOf v1 v2 v3 v4 D_7) (fun y_10 D_11 => some (y_10, D_11)))))))
set_option maxRecDepth 100000 in
set_option maxHeartbeats 800000 in
theorem c_X12_smell {G : aG} (hG : gOK G) {shp : List aSh} (hS : aShp shp) {fr : Option Nat} {v1 : Int32} {v2 : Int32} {v3 : Int32} {v4 : Int32} {D : aD} {K : Int32 → aD → Prop} (h : Ok2 (f_X12_smell v1 v2 v3 v4 D) K) : AC G (aRm 3 0 0) M_X12_smell [.ref 88, .int v1, .int v2, .int v3, .int v4] fr shp D (aQi shp K) := by
  replace h := Ok2.ok h
  unfold f_X12_smell at h
  refine AC.of (al := [some (.ref 88), some (.int v1), some (.int v2), some (.int v3), some (.int v4)]) (r := 0) (by decide) (Nat.le_of_ble_eq_true rfl) rfl ?_
  refine aw_aload_n (n := 1) (i := 0) dX12_smell_0 rfl rfl rfl ?_
  refine aw_iconst (n := 2) (v := 0) dX12_smell_1 rfl (by decide) ?_
  obtain ⟨D_1, e_D_1, h⟩ := Ok.let_ h
  refine aw_putI (n := 5) (j := 2) hG.1 fl_RX12_157 (sF_88 hS) rfl e_D_1 dX12_smell_2 rfl ?_
  refine aw_aload_n (n := 6) (i := 0) dX12_smell_5 rfl rfl rfl ?_
  refine aw_iload_n (n := 7) (i := 1) dX12_smell_6 rfl rfl rfl ?_
  refine aw_cVi (M := M_X12_smell) (n := 10) (As := [.int v1]) (rest := []) hG.1 lk_RX12_316 rfl rfl (sF_88 hS) (c_X12_isPlant hG hS (h := Ok.bi h)) (by decide) (Nat.le_of_ble_eq_true rfl) (by decide) (by decide) dX12_smell_7 rfl (fun y_2 D_3 h => ?_)
  refine aw_if_eq (n := 13) (tgt := 36) dX12_smell_10 rfl (by decide) (fun c => ?_) (fun c => ?_)
  · replace h := Ok.ift h c
    refine aw_aload_n (n := 37) (i := 0) dX12_smell_36 rfl rfl rfl ?_
    refine aw_iconst (n := 38) (v := 1) dX12_smell_37 rfl (by decide) ?_
    refine aw_cVi (M := M_X12_smell) (n := 41) (As := [.int 1]) (rest := []) hG.1 lk_RX12_290 rfl rfl (sF_88 hS) (c_X12_fail hG hS (h := Ok.bi h)) (by decide) (Nat.le_of_ble_eq_true rfl) (by decide) (by decide) dX12_smell_38 rfl (fun y_4 D_5 h => ?_)
    exact aw_iret rfl (by decide) (by decide) dX12_smell_41 ⟨_, rfl, rfl, (Ok.dn h :)⟩
  · replace h := Ok.iff h c
    refine aw_aload_n (n := 14) (i := 0) dX12_smell_13 rfl rfl rfl ?_
    refine aw_iload_n (n := 15) (i := 2) dX12_smell_14 rfl rfl rfl ?_
    refine aw_iload_n (n := 16) (i := 3) dX12_smell_15 rfl rfl rfl ?_
    refine aw_iload (n := 18) (i := 4) dX12_smell_16 rfl rfl ?_
    refine aw_cVi (M := M_X12_smell) (n := 21) (As := [.int v2, .int v3, .int v4]) (rest := []) hG.1 lk_RX12_329 rfl rfl (sF_88 hS) (c_X12_isPlace hG hS (h := Ok.bi h)) (by decide) (Nat.le_of_ble_eq_true rfl) (by decide) (by decide) dX12_smell_18 rfl (fun y_6 D_7 h => ?_)
    refine aw_if_eq (n := 24) (tgt := 36) dX12_smell_21 rfl (by decide) (fun c => ?_) (fun c => ?_)
    · replace h := Ok.ift h c
      refine aw_aload_n (n := 37) (i := 0) dX12_smell_36 rfl rfl rfl ?_
      refine aw_iconst (n := 38) (v := 1) dX12_smell_37 rfl (by decide) ?_
      refine aw_cVi (M := M_X12_smell) (n := 41) (As := [.int 1]) (rest := []) hG.1 lk_RX12_290 rfl rfl (sF_88 hS) (c_X12_fail hG hS (h := Ok.bi h)) (by decide) (Nat.le_of_ble_eq_true rfl) (by decide) (by decide) dX12_smell_38 rfl (fun y_8 D_9 h => ?_)
      exact aw_iret rfl (by decide) (by decide) dX12_smell_41 ⟨_, rfl, rfl, (Ok.dn h :)⟩
    · replace h := Ok.iff h c
      refine aw_aload_n (n := 25) (i := 0) dX12_smell_24 rfl rfl rfl ?_
      refine aw_iload_n (n := 26) (i := 1) dX12_smell_25 rfl rfl rfl ?_
      refine aw_iload_n (n := 27) (i := 2) dX12_smell_26 rfl rfl rfl ?_
      refine aw_iload_n (n := 28) (i := 3) dX12_smell_27 rfl rfl rfl ?_
      refine aw_iload (n := 30) (i := 4) dX12_smell_28 rfl rfl ?_
      refine aw_cVi (M := M_X12_smell) (n := 33) (As := [.int v1, .int v2, .int v3, .int v4]) (rest := []) hG.1 lk_RX12_332 rfl rfl (sF_88 hS) (c_X12_smellOf hG hS (h := Ok.bi h)) (by decide) (Nat.le_of_ble_eq_true rfl) (by decide) (by decide) dX12_smell_30 rfl (fun y_10 D_11 h => ?_)
      refine aw_goto (tgt := 41) dX12_smell_33 (by decide) ?_
      exact aw_iret rfl (by decide) (by decide) dX12_smell_41 ⟨_, rfl, rfl, (Ok.dn h :)⟩
theorem dX12_tellPlace_0 : decode cX12_tellPlace 0 = .ok (.iconst 0, 1) := by decide +kernel
theorem dX12_tellPlace_1 : decode cX12_tellPlace 1 = .ok (.istore 4, 2) := by decide +kernel
theorem dX12_tellPlace_3 : decode cX12_tellPlace 3 = .ok (.iload 4, 2) := by decide +kernel
theorem dX12_tellPlace_5 : decode cX12_tellPlace 5 = .ok (.bipush 6, 2) := by decide +kernel
theorem dX12_tellPlace_7 : decode cX12_tellPlace 7 = .ok (.if_icmp .ge 17, 3) := by decide +kernel
theorem dX12_tellPlace_10 : decode cX12_tellPlace 10 = .ok (.aload_n 0, 1) := by decide +kernel
theorem dX12_tellPlace_11 : decode cX12_tellPlace 11 = .ok (.getfield 85, 3) := by decide +kernel
theorem dX12_tellPlace_14 : decode cX12_tellPlace 14 = .ok (.iload 4, 2) := by decide +kernel
theorem dX12_tellPlace_16 : decode cX12_tellPlace 16 = .ok (.iconst 0, 1) := by decide +kernel
theorem dX12_tellPlace_17 : decode cX12_tellPlace 17 = .ok (.iastore, 1) := by decide +kernel
theorem dX12_tellPlace_18 : decode cX12_tellPlace 18 = .ok (.iinc 4 1, 3) := by decide +kernel
theorem dX12_tellPlace_21 : decode cX12_tellPlace 21 = .ok (.goto (-18), 3) := by decide +kernel
theorem dX12_tellPlace_24 : decode cX12_tellPlace 24 = .ok (.iconst 0, 1) := by decide +kernel
theorem dX12_tellPlace_25 : decode cX12_tellPlace 25 = .ok (.istore 4, 2) := by decide +kernel
theorem dX12_tellPlace_27 : decode cX12_tellPlace 27 = .ok (.iload 4, 2) := by decide +kernel
theorem dX12_tellPlace_29 : decode cX12_tellPlace 29 = .ok (.bipush 30, 2) := by decide +kernel
theorem dX12_tellPlace_31 : decode cX12_tellPlace 31 = .ok (.if_icmp .ge 17, 3) := by decide +kernel
theorem dX12_tellPlace_34 : decode cX12_tellPlace 34 = .ok (.aload_n 0, 1) := by decide +kernel
theorem dX12_tellPlace_35 : decode cX12_tellPlace 35 = .ok (.getfield 88, 3) := by decide +kernel
theorem dX12_tellPlace_38 : decode cX12_tellPlace 38 = .ok (.iload 4, 2) := by decide +kernel
theorem dX12_tellPlace_40 : decode cX12_tellPlace 40 = .ok (.iconst 0, 1) := by decide +kernel
theorem dX12_tellPlace_41 : decode cX12_tellPlace 41 = .ok (.iastore, 1) := by decide +kernel
theorem dX12_tellPlace_42 : decode cX12_tellPlace 42 = .ok (.iinc 4 1, 3) := by decide +kernel
theorem dX12_tellPlace_45 : decode cX12_tellPlace 45 = .ok (.goto (-18), 3) := by decide +kernel
theorem dX12_tellPlace_48 : decode cX12_tellPlace 48 = .ok (.iconst 0, 1) := by decide +kernel
theorem dX12_tellPlace_49 : decode cX12_tellPlace 49 = .ok (.istore 4, 2) := by decide +kernel
theorem dX12_tellPlace_51 : decode cX12_tellPlace 51 = .ok (.iload 4, 2) := by decide +kernel
theorem dX12_tellPlace_53 : decode cX12_tellPlace 53 = .ok (.aload_n 0, 1) := by decide +kernel
theorem dX12_tellPlace_54 : decode cX12_tellPlace 54 = .ok (.getfield 303, 3) := by decide +kernel
theorem dX12_tellPlace_57 : decode cX12_tellPlace 57 = .ok (.if_icmp .ge 76, 3) := by decide +kernel
theorem dX12_tellPlace_60 : decode cX12_tellPlace 60 = .ok (.aload_n 0, 1) := by decide +kernel
theorem dX12_tellPlace_61 : decode cX12_tellPlace 61 = .ok (.iload 4, 2) := by decide +kernel
theorem dX12_tellPlace_63 : decode cX12_tellPlace 63 = .ok (.iload_n 1, 1) := by decide +kernel
theorem dX12_tellPlace_64 : decode cX12_tellPlace 64 = .ok (.iload_n 2, 1) := by decide +kernel
theorem dX12_tellPlace_65 : decode cX12_tellPlace 65 = .ok (.iload_n 3, 1) := by decide +kernel
theorem dX12_tellPlace_66 : decode cX12_tellPlace 66 = .ok (.invokevirtual 332, 3) := by decide +kernel
theorem dX12_tellPlace_69 : decode cX12_tellPlace 69 = .ok (.istore 5, 2) := by decide +kernel
theorem dX12_tellPlace_71 : decode cX12_tellPlace 71 = .ok (.aload_n 0, 1) := by decide +kernel
theorem dX12_tellPlace_72 : decode cX12_tellPlace 72 = .ok (.getfield 85, 3) := by decide +kernel
theorem dX12_tellPlace_75 : decode cX12_tellPlace 75 = .ok (.aload_n 0, 1) := by decide +kernel
theorem dX12_tellPlace_76 : decode cX12_tellPlace 76 = .ok (.getfield 51, 3) := by decide +kernel
theorem dX12_tellPlace_79 : decode cX12_tellPlace 79 = .ok (.iload 4, 2) := by decide +kernel
theorem dX12_tellPlace_81 : decode cX12_tellPlace 81 = .ok (.iaload, 1) := by decide +kernel
theorem dX12_tellPlace_82 : decode cX12_tellPlace 82 = .ok (.dup2, 1) := by decide +kernel
theorem dX12_tellPlace_83 : decode cX12_tellPlace 83 = .ok (.iaload, 1) := by decide +kernel
theorem dX12_tellPlace_84 : decode cX12_tellPlace 84 = .ok (.iload 5, 2) := by decide +kernel
theorem dX12_tellPlace_86 : decode cX12_tellPlace 86 = .ok (.iadd, 1) := by decide +kernel
theorem dX12_tellPlace_87 : decode cX12_tellPlace 87 = .ok (.iastore, 1) := by decide +kernel
theorem dX12_tellPlace_88 : decode cX12_tellPlace 88 = .ok (.aload_n 0, 1) := by decide +kernel
theorem dX12_tellPlace_89 : decode cX12_tellPlace 89 = .ok (.getfield 57, 3) := by decide +kernel
theorem dX12_tellPlace_92 : decode cX12_tellPlace 92 = .ok (.iload 4, 2) := by decide +kernel
theorem dX12_tellPlace_94 : decode cX12_tellPlace 94 = .ok (.iaload, 1) := by decide +kernel
theorem dX12_tellPlace_95 : decode cX12_tellPlace 95 = .ok (.iconst (-1), 1) := by decide +kernel
theorem dX12_tellPlace_96 : decode cX12_tellPlace 96 = .ok (.if_icmp .eq 31, 3) := by decide +kernel
theorem dX12_tellPlace_99 : decode cX12_tellPlace 99 = .ok (.aload_n 0, 1) := by decide +kernel
theorem dX12_tellPlace_100 : decode cX12_tellPlace 100 = .ok (.getfield 88, 3) := by decide +kernel
theorem dX12_tellPlace_103 : decode cX12_tellPlace 103 = .ok (.bipush 6, 2) := by decide +kernel
theorem dX12_tellPlace_105 : decode cX12_tellPlace 105 = .ok (.aload_n 0, 1) := by decide +kernel
theorem dX12_tellPlace_106 : decode cX12_tellPlace 106 = .ok (.getfield 57, 3) := by decide +kernel
theorem dX12_tellPlace_109 : decode cX12_tellPlace 109 = .ok (.iload 4, 2) := by decide +kernel
theorem dX12_tellPlace_111 : decode cX12_tellPlace 111 = .ok (.iaload, 1) := by decide +kernel
theorem dX12_tellPlace_112 : decode cX12_tellPlace 112 = .ok (.imul, 1) := by decide +kernel
theorem dX12_tellPlace_113 : decode cX12_tellPlace 113 = .ok (.aload_n 0, 1) := by decide +kernel
theorem dX12_tellPlace_114 : decode cX12_tellPlace 114 = .ok (.getfield 51, 3) := by decide +kernel
theorem dX12_tellPlace_117 : decode cX12_tellPlace 117 = .ok (.iload 4, 2) := by decide +kernel
theorem dX12_tellPlace_119 : decode cX12_tellPlace 119 = .ok (.iaload, 1) := by decide +kernel
theorem dX12_tellPlace_120 : decode cX12_tellPlace 120 = .ok (.iadd, 1) := by decide +kernel
theorem dX12_tellPlace_121 : decode cX12_tellPlace 121 = .ok (.dup2, 1) := by decide +kernel
theorem dX12_tellPlace_122 : decode cX12_tellPlace 122 = .ok (.iaload, 1) := by decide +kernel
theorem dX12_tellPlace_123 : decode cX12_tellPlace 123 = .ok (.iload 5, 2) := by decide +kernel
theorem dX12_tellPlace_125 : decode cX12_tellPlace 125 = .ok (.iadd, 1) := by decide +kernel
theorem dX12_tellPlace_126 : decode cX12_tellPlace 126 = .ok (.iastore, 1) := by decide +kernel
theorem dX12_tellPlace_127 : decode cX12_tellPlace 127 = .ok (.iinc 4 1, 3) := by decide +kernel
theorem dX12_tellPlace_130 : decode cX12_tellPlace 130 = .ok (.goto (-79), 3) := by decide +kernel
theorem dX12_tellPlace_133 : decode cX12_tellPlace 133 = .ok (.iconst 0, 1) := by decide +kernel
theorem dX12_tellPlace_134 : decode cX12_tellPlace 134 = .ok (.istore 4, 2) := by decide +kernel
theorem dX12_tellPlace_136 : decode cX12_tellPlace 136 = .ok (.iload 4, 2) := by decide +kernel
theorem dX12_tellPlace_138 : decode cX12_tellPlace 138 = .ok (.aload_n 0, 1) := by decide +kernel
theorem dX12_tellPlace_139 : decode cX12_tellPlace 139 = .ok (.getfield 27, 3) := by decide +kernel
theorem dX12_tellPlace_142 : decode cX12_tellPlace 142 = .ok (.iconst 2, 1) := by decide +kernel
theorem dX12_tellPlace_143 : decode cX12_tellPlace 143 = .ok (.iaload, 1) := by decide +kernel
theorem dX12_tellPlace_144 : decode cX12_tellPlace 144 = .ok (.if_icmp .ge 115, 3) := by decide +kernel
theorem dX12_tellPlace_147 : decode cX12_tellPlace 147 = .ok (.aload_n 0, 1) := by decide +kernel
theorem dX12_tellPlace_148 : decode cX12_tellPlace 148 = .ok (.getfield 85, 3) := by decide +kernel
theorem dX12_tellPlace_151 : decode cX12_tellPlace 151 = .ok (.iload 4, 2) := by decide +kernel
theorem dX12_tellPlace_153 : decode cX12_tellPlace 153 = .ok (.iaload, 1) := by decide +kernel
theorem dX12_tellPlace_154 : decode cX12_tellPlace 154 = .ok (.istore 5, 2) := by decide +kernel
theorem dX12_tellPlace_156 : decode cX12_tellPlace 156 = .ok (.iconst 0, 1) := by decide +kernel
theorem dX12_tellPlace_157 : decode cX12_tellPlace 157 = .ok (.istore 6, 2) := by decide +kernel
theorem dX12_tellPlace_159 : decode cX12_tellPlace 159 = .ok (.iload 6, 2) := by decide +kernel
theorem dX12_tellPlace_161 : decode cX12_tellPlace 161 = .ok (.aload_n 0, 1) := by decide +kernel
theorem dX12_tellPlace_162 : decode cX12_tellPlace 162 = .ok (.getfield 27, 3) := by decide +kernel
theorem dX12_tellPlace_165 : decode cX12_tellPlace 165 = .ok (.iconst 2, 1) := by decide +kernel
theorem dX12_tellPlace_166 : decode cX12_tellPlace 166 = .ok (.iaload, 1) := by decide +kernel
theorem dX12_tellPlace_167 : decode cX12_tellPlace 167 = .ok (.if_icmp .ge 38, 3) := by decide +kernel
theorem dX12_tellPlace_170 : decode cX12_tellPlace 170 = .ok (.iload 5, 2) := by decide +kernel
theorem dX12_tellPlace_172 : decode cX12_tellPlace 172 = .ok (.aload_n 0, 1) := by decide +kernel
theorem dX12_tellPlace_173 : decode cX12_tellPlace 173 = .ok (.getfield 63, 3) := by decide +kernel
theorem dX12_tellPlace_176 : decode cX12_tellPlace 176 = .ok (.bipush 6, 2) := by decide +kernel
theorem dX12_tellPlace_178 : decode cX12_tellPlace 178 = .ok (.iload 6, 2) := by decide +kernel
theorem dX12_tellPlace_180 : decode cX12_tellPlace 180 = .ok (.imul, 1) := by decide +kernel
theorem dX12_tellPlace_181 : decode cX12_tellPlace 181 = .ok (.iload 4, 2) := by decide +kernel
theorem dX12_tellPlace_183 : decode cX12_tellPlace 183 = .ok (.iadd, 1) := by decide +kernel
theorem dX12_tellPlace_184 : decode cX12_tellPlace 184 = .ok (.iaload, 1) := by decide +kernel
theorem dX12_tellPlace_185 : decode cX12_tellPlace 185 = .ok (.aload_n 0, 1) := by decide +kernel
theorem dX12_tellPlace_186 : decode cX12_tellPlace 186 = .ok (.getfield 85, 3) := by decide +kernel
theorem dX12_tellPlace_189 : decode cX12_tellPlace 189 = .ok (.iload 6, 2) := by decide +kernel
theorem dX12_tellPlace_191 : decode cX12_tellPlace 191 = .ok (.iaload, 1) := by decide +kernel
theorem dX12_tellPlace_192 : decode cX12_tellPlace 192 = .ok (.imul, 1) := by decide +kernel
theorem dX12_tellPlace_193 : decode cX12_tellPlace 193 = .ok (.bipush 100, 2) := by decide +kernel
theorem dX12_tellPlace_195 : decode cX12_tellPlace 195 = .ok (.idiv, 1) := by decide +kernel
theorem dX12_tellPlace_196 : decode cX12_tellPlace 196 = .ok (.isub, 1) := by decide +kernel
theorem dX12_tellPlace_197 : decode cX12_tellPlace 197 = .ok (.istore 5, 2) := by decide +kernel
theorem dX12_tellPlace_199 : decode cX12_tellPlace 199 = .ok (.iinc 6 1, 3) := by decide +kernel
theorem dX12_tellPlace_202 : decode cX12_tellPlace 202 = .ok (.goto (-43), 3) := by decide +kernel
theorem dX12_tellPlace_205 : decode cX12_tellPlace 205 = .ok (.aload_n 0, 1) := by decide +kernel
theorem dX12_tellPlace_206 : decode cX12_tellPlace 206 = .ok (.getfield 91, 3) := by decide +kernel
theorem dX12_tellPlace_209 : decode cX12_tellPlace 209 = .ok (.iload 4, 2) := by decide +kernel
theorem dX12_tellPlace_211 : decode cX12_tellPlace 211 = .ok (.iconst 0, 1) := by decide +kernel
theorem dX12_tellPlace_212 : decode cX12_tellPlace 212 = .ok (.iload 5, 2) := by decide +kernel
theorem dX12_tellPlace_214 : decode cX12_tellPlace 214 = .ok (.invokestatic 326, 3) := by decide +kernel
theorem dX12_tellPlace_217 : decode cX12_tellPlace 217 = .ok (.iastore, 1) := by decide +kernel
theorem dX12_tellPlace_218 : decode cX12_tellPlace 218 = .ok (.aload_n 0, 1) := by decide +kernel
theorem dX12_tellPlace_219 : decode cX12_tellPlace 219 = .ok (.getfield 94, 3) := by decide +kernel
theorem dX12_tellPlace_222 : decode cX12_tellPlace 222 = .ok (.iload 4, 2) := by decide +kernel
theorem dX12_tellPlace_224 : decode cX12_tellPlace 224 = .ok (.aload_n 0, 1) := by decide +kernel
theorem dX12_tellPlace_225 : decode cX12_tellPlace 225 = .ok (.getfield 91, 3) := by decide +kernel
theorem dX12_tellPlace_228 : decode cX12_tellPlace 228 = .ok (.iload 4, 2) := by decide +kernel
theorem dX12_tellPlace_230 : decode cX12_tellPlace 230 = .ok (.iaload, 1) := by decide +kernel
theorem dX12_tellPlace_231 : decode cX12_tellPlace 231 = .ok (.aload_n 0, 1) := by decide +kernel
theorem dX12_tellPlace_232 : decode cX12_tellPlace 232 = .ok (.getfield 27, 3) := by decide +kernel
theorem dX12_tellPlace_235 : decode cX12_tellPlace 235 = .ok (.bipush 9, 2) := by decide +kernel
theorem dX12_tellPlace_237 : decode cX12_tellPlace 237 = .ok (.iaload, 1) := by decide +kernel
theorem dX12_tellPlace_238 : decode cX12_tellPlace 238 = .ok (.if_icmp .ge 7, 3) := by decide +kernel
theorem dX12_tellPlace_241 : decode cX12_tellPlace 241 = .ok (.iconst 0, 1) := by decide +kernel
theorem dX12_tellPlace_242 : decode cX12_tellPlace 242 = .ok (.goto 10, 3) := by decide +kernel
theorem dX12_tellPlace_245 : decode cX12_tellPlace 245 = .ok (.aload_n 0, 1) := by decide +kernel
theorem dX12_tellPlace_246 : decode cX12_tellPlace 246 = .ok (.getfield 91, 3) := by decide +kernel
theorem dX12_tellPlace_249 : decode cX12_tellPlace 249 = .ok (.iload 4, 2) := by decide +kernel
theorem dX12_tellPlace_251 : decode cX12_tellPlace 251 = .ok (.iaload, 1) := by decide +kernel
theorem dX12_tellPlace_252 : decode cX12_tellPlace 252 = .ok (.iastore, 1) := by decide +kernel
theorem dX12_tellPlace_253 : decode cX12_tellPlace 253 = .ok (.iinc 4 1, 3) := by decide +kernel
theorem dX12_tellPlace_256 : decode cX12_tellPlace 256 = .ok (.goto (-120), 3) := by decide +kernel
theorem dX12_tellPlace_259 : decode cX12_tellPlace 259 = .ok (.return_, 1) := by decide +kernel
def J_X12_tellPlace_259 (D : aD) : Option (aD) :=
  some D
def J_X12_tellPlace_205 (v4 : Int32) (v5 : Int32) (D : aD) : Option ((Int32 × aD) ⊕ ((aD))) :=
  aGd (aIn v4 6) (aLet (pI D 110 v4.toNatClampNeg (if 0 < v5 then v5 else 0)) (fun D_5 => aGd (aIn v4 6) (aGd (aIn 9 32) (if gI D_5 91 (9 : Int32).toNatClampNeg ≤ gI D_5 110 v4.toNatClampNeg then (aGd (aIn v4 6) (aGd (aIn v4 6) (aLet (pI D_5 111 v4.toNatClampNeg (gI D_5 110 v4.toNatClampNeg)) (fun D_10 => aLet (v4 + 1) (fun v4_11 => some (.inl (v4_11, D_10))))))) else (aGd (aIn v4 6) (aLet (pI D_5 111 v4.toNatClampNeg 0) (fun D_13 => aLet (v4 + 1) (fun v4_14 => some (.inl (v4_14, D_13))))))))))
def B_X12_tellPlace_159 (v4 : Int32) (v5 : Int32) (v6 : Int32) (D : aD) : Option ((Int32 × Int32 × aD) ⊕ ((Int32 × aD))) :=
  aGd (aIn 2 32) (if gI D 91 (2 : Int32).toNatClampNeg ≤ v6 then (some (.inr (v5, D))) else (aGd (aIn ((6 * v6) + v4) 72) (aGd (aIn v6 6) (aLet (v5 - (((gI D 103 ((6 * v6) + v4).toNatClampNeg) * (gI D 108 v6.toNatClampNeg)) / 100)) (fun v5_18 => aLet (v6 + 1) (fun v6_19 => some (.inl (v5_18, v6_19, D))))))))
def J_X12_tellPlace_159 (v4 : Int32) (v5 : Int32) (v6 : Int32) (D : aD) : Option ((Int32 × aD) ⊕ ((aD))) :=
  (aLp (fun s => B_X12_tellPlace_159 v4 s.1 s.2.1 s.2.2) (v5, v6, D)).bind (fun r => J_X12_tellPlace_205 v4 (r.1) r.2)
def B_X12_tellPlace_136 (v4 : Int32) (D : aD) : Option ((Int32 × aD) ⊕ ((aD))) :=
  aGd (aIn 2 32) (if gI D 91 (2 : Int32).toNatClampNeg ≤ v4 then (some (.inr D)) else (aGd (aIn v4 6) (aLet (gI D 108 v4.toNatClampNeg) (fun v5_3 => J_X12_tellPlace_159 v4 v5_3 0 D))))
def J_X12_tellPlace_136 (v4 : Int32) (D : aD) : Option (aD) :=
  (aLp (fun s => B_X12_tellPlace_136 s.1 s.2) (v4, D)).bind (fun r => J_X12_tellPlace_259 r)
def J_X12_tellPlace_133 (D : aD) : Option (aD) :=
  J_X12_tellPlace_136 0 D
def B_X12_tellPlace_51 (v1 : Int32) (v2 : Int32) (v3 : Int32) (v4 : Int32) (D : aD) : Option ((Int32 × aD) ⊕ ((aD))) :=
  if gI D 88 30 ≤ v4 then (some (.inr D)) else (aBi (f_X12_smellOf v4 v1 v2 v3 D) (fun y_20 D_21 => aGd (aIn v4 26) (aGd (aIn (gI D_21 99 v4.toNatClampNeg) 6) (aGd (aIn (gI D_21 99 v4.toNatClampNeg) 6) (aLet (pI D_21 108 (gI D_21 99 v4.toNatClampNeg).toNatClampNeg ((gI D_21 108 (gI D_21 99 v4.toNatClampNeg).toNatClampNeg) + y_20)) (fun D_25 => aGd (aIn v4 26) (if gI D_25 101 v4.toNatClampNeg = (-1) then (aLet (v4 + 1) (fun v4_27 => some (.inl (v4_27, D_25)))) else (aGd (aIn v4 26) (aGd (aIn v4 26) (aGd (aIn ((6 * (gI D_25 101 v4.toNatClampNeg)) + (gI D_25 99 v4.toNatClampNeg)) 30) (aGd (aIn ((6 * (gI D_25 101 v4.toNatClampNeg)) + (gI D_25 99 v4.toNatClampNeg)) 30) (aLet (pI D_25 109 ((6 * (gI D_25 101 v4.toNatClampNeg)) + (gI D_25 99 v4.toNatClampNeg)).toNatClampNeg ((gI D_25 109 ((6 * (gI D_25 101 v4.toNatClampNeg)) + (gI D_25 99 v4.toNatClampNeg)).toNatClampNeg) + y_20)) (fun D_32 => aLet (v4 + 1) (fun v4_33 => some (.inl (v4_33, D_32))))))))))))))))
def J_X12_tellPlace_51 (v1 : Int32) (v2 : Int32) (v3 : Int32) (v4 : Int32) (D : aD) : Option (aD) :=
  (aLp (fun s => B_X12_tellPlace_51 v1 v2 v3 s.1 s.2) (v4, D)).bind (fun r => J_X12_tellPlace_133 r)
def J_X12_tellPlace_48 (v1 : Int32) (v2 : Int32) (v3 : Int32) (D : aD) : Option (aD) :=
  J_X12_tellPlace_51 v1 v2 v3 0 D
def B_X12_tellPlace_27 (v1 : Int32) (v2 : Int32) (v3 : Int32) (v4 : Int32) (D : aD) : Option ((Int32 × aD) ⊕ ((aD))) :=
  if 30 ≤ v4 then (some (.inr D)) else (aGd (aIn v4 30) (aLet (pI D 109 v4.toNatClampNeg 0) (fun D_35 => aLet (v4 + 1) (fun v4_36 => some (.inl (v4_36, D_35))))))
def J_X12_tellPlace_27 (v1 : Int32) (v2 : Int32) (v3 : Int32) (v4 : Int32) (D : aD) : Option (aD) :=
  (aLp (fun s => B_X12_tellPlace_27 v1 v2 v3 s.1 s.2) (v4, D)).bind (fun r => J_X12_tellPlace_48 v1 v2 v3 r)
def J_X12_tellPlace_24 (v1 : Int32) (v2 : Int32) (v3 : Int32) (D : aD) : Option (aD) :=
  J_X12_tellPlace_27 v1 v2 v3 0 D
def B_X12_tellPlace_3 (v1 : Int32) (v2 : Int32) (v3 : Int32) (v4 : Int32) (D : aD) : Option ((Int32 × aD) ⊕ ((aD))) :=
  if 6 ≤ v4 then (some (.inr D)) else (aGd (aIn v4 6) (aLet (pI D 108 v4.toNatClampNeg 0) (fun D_38 => aLet (v4 + 1) (fun v4_39 => some (.inl (v4_39, D_38))))))
def J_X12_tellPlace_3 (v1 : Int32) (v2 : Int32) (v3 : Int32) (v4 : Int32) (D : aD) : Option (aD) :=
  (aLp (fun s => B_X12_tellPlace_3 v1 v2 v3 s.1 s.2) (v4, D)).bind (fun r => J_X12_tellPlace_24 v1 v2 v3 r)
def f_X12_tellPlace (v1 : Int32) (v2 : Int32) (v3 : Int32) (D : aD) : Option (aD) :=
  J_X12_tellPlace_3 v1 v2 v3 0 D
set_option maxRecDepth 100000 in
set_option maxHeartbeats 800000 in
theorem c_X12_tellPlace {G : aG} (hG : gOK G) {shp : List aSh} (hS : aShp shp) {fr : Option Nat} {v1 : Int32} {v2 : Int32} {v3 : Int32} {D : aD} {K : aD → Prop} (h : Ok (f_X12_tellPlace v1 v2 v3 D) K) : AC G (aRm 3 0 0) M_X12_tellPlace [.ref 88, .int v1, .int v2, .int v3] fr shp D (aQv shp K) := by
  unfold f_X12_tellPlace at h
  refine AC.of (al := [some (.ref 88), some (.int v1), some (.int v2), some (.int v3), none, none, none]) (r := 3) (by decide) (Nat.le_of_ble_eq_true rfl) rfl ?_
  have hJ_259 : ∀ (D : aD), Ok (J_X12_tellPlace_259 D) K → AW G (aRm 3 0 0) M_X12_tellPlace fr 0 0 259 [none, none, none, none, none, none, none] [] shp D (aQv shp K) := by
    intro D h
    unfold J_X12_tellPlace_259 at h
    exact aw_vret rfl (by decide) (by decide) dX12_tellPlace_259 ⟨rfl, rfl, (Ok.dn h :)⟩
  have hJ_136 : ∀ (v4 : Int32) (D : aD), Ok (J_X12_tellPlace_136 v4 D) K → AW G (aRm 3 0 0) M_X12_tellPlace fr 0 0 136 [some (.ref 88), none, none, none, some (.int v4), none, none] [] shp D (aQv shp K) := by
    intro v4 D h
    unfold J_X12_tellPlace_136 at h
    refine Ok.lp (P := fun s => AW G (aRm 3 0 0) M_X12_tellPlace fr 0 0 136 [some (.ref 88), none, none, none, some (.int (s.1)), none, none] [] shp s.2 (aQv shp K)) (fun s Kb136 hL136 hR136 h => ?_) (v4, D) (Ok.bind h)
    obtain ⟨v4, D⟩ := s
    replace h : Ok (B_X12_tellPlace_136 v4 D) Kb136 := h
    unfold B_X12_tellPlace_136 at h
    have hJ_205 : ∀ (v4 : Int32) (v5 : Int32) (D : aD), Ok (J_X12_tellPlace_205 v4 v5 D) Kb136 → AW G (aRm 3 0 0) M_X12_tellPlace fr 0 0 205 [some (.ref 88), none, none, none, some (.int v4), some (.int v5), none] [] shp D (aQv shp K) := by
      intro v4 v5 D h
      unfold J_X12_tellPlace_205 at h
      refine aw_aload_n (n := 206) (i := 0) dX12_tellPlace_205 rfl rfl rfl ?_
      refine aw_getR (n := 209) (j := 36) (r := 110) hG.1 fl_RX12_91 (sF_88 hS) rfl dX12_tellPlace_206 rfl ?_
      refine aw_iload (n := 211) (i := 4) dX12_tellPlace_209 rfl rfl ?_
      refine aw_iconst (n := 212) (v := 0) dX12_tellPlace_211 rfl (by decide) ?_
      refine aw_iload (n := 214) (i := 5) dX12_tellPlace_212 rfl rfl ?_
      refine aw_max (M := M_X12_tellPlace) (n := 217) lm_RX12_326 mm_max.1 mm_max.2.1 mm_max.2.2 (by decide) (Nat.le_of_ble_eq_true rfl) (by decide) (by decide) dX12_tellPlace_214 rfl ?_
      obtain ⟨g_4, h⟩ := Ok.gd h
      obtain ⟨D_5, e_D_5, h⟩ := Ok.let_ h
      refine aw_iastore (n := 218) hG.1 (sF_110 hS) (aIn_in g_4) e_D_5 dX12_tellPlace_217 rfl ?_
      refine aw_aload_n (n := 219) (i := 0) dX12_tellPlace_218 rfl rfl rfl ?_
      refine aw_getR (n := 222) (j := 37) (r := 111) hG.1 fl_RX12_94 (sF_88 hS) rfl dX12_tellPlace_219 rfl ?_
      refine aw_iload (n := 224) (i := 4) dX12_tellPlace_222 rfl rfl ?_
      refine aw_aload_n (n := 225) (i := 0) dX12_tellPlace_224 rfl rfl rfl ?_
      refine aw_getR (n := 228) (j := 36) (r := 110) hG.1 fl_RX12_91 (sF_88 hS) rfl dX12_tellPlace_225 rfl ?_
      refine aw_iload (n := 230) (i := 4) dX12_tellPlace_228 rfl rfl ?_
      obtain ⟨g_6, h⟩ := Ok.gd h
      refine aw_iaload (n := 231) hG.1 (sF_110 hS) (aIn_in g_6) dX12_tellPlace_230 rfl ?_
      refine aw_aload_n (n := 232) (i := 0) dX12_tellPlace_231 rfl rfl rfl ?_
      refine aw_getR (n := 235) (j := 3) (r := 91) hG.1 fl_RX12_27 (sF_88 hS) rfl dX12_tellPlace_232 rfl ?_
      refine aw_bipush (n := 237) (v := 9) dX12_tellPlace_235 rfl (by decide) ?_
      obtain ⟨g_7, h⟩ := Ok.gd h
      refine aw_iaload (n := 238) hG.1 (sF_91 hS) (aIn_in g_7) dX12_tellPlace_237 rfl ?_
      refine aw_icmp_ge (n := 241) (tgt := 245) dX12_tellPlace_238 rfl (by decide) (fun c => ?_) (fun c => ?_)
      · replace h := Ok.ift h c
        refine aw_aload_n (n := 246) (i := 0) dX12_tellPlace_245 rfl rfl rfl ?_
        refine aw_getR (n := 249) (j := 36) (r := 110) hG.1 fl_RX12_91 (sF_88 hS) rfl dX12_tellPlace_246 rfl ?_
        refine aw_iload (n := 251) (i := 4) dX12_tellPlace_249 rfl rfl ?_
        obtain ⟨g_8, h⟩ := Ok.gd h
        refine aw_iaload (n := 252) hG.1 (sF_110 hS) (aIn_in g_8) dX12_tellPlace_251 rfl ?_
        obtain ⟨g_9, h⟩ := Ok.gd h
        obtain ⟨D_10, e_D_10, h⟩ := Ok.let_ h
        refine aw_iastore (n := 253) hG.1 (sF_111 hS) (aIn_in g_9) e_D_10 dX12_tellPlace_252 rfl ?_
        obtain ⟨v4_11, e_v4_11, h⟩ := Ok.let_ h
        refine aw_iinc (n := 256) (al' := [some (.ref 88), none, none, none, some (.int v4_11), some (.int v5), none]) dX12_tellPlace_253 rfl rfl e_v4_11 (by decide) rfl ?_
        refine aw_goto (tgt := 136) dX12_tellPlace_256 (by decide) ?_
        exact aw_le' (hL136 (v4_11, D_10) (Ok.dn h :)) ⟨rfl, ⟨rfl, trivial⟩⟩
      · replace h := Ok.iff h c
        refine aw_iconst (n := 242) (v := 0) dX12_tellPlace_241 rfl (by decide) ?_
        refine aw_goto (tgt := 252) dX12_tellPlace_242 (by decide) ?_
        obtain ⟨g_12, h⟩ := Ok.gd h
        obtain ⟨D_13, e_D_13, h⟩ := Ok.let_ h
        refine aw_iastore (n := 253) hG.1 (sF_111 hS) (aIn_in g_12) e_D_13 dX12_tellPlace_252 rfl ?_
        obtain ⟨v4_14, e_v4_14, h⟩ := Ok.let_ h
        refine aw_iinc (n := 256) (al' := [some (.ref 88), none, none, none, some (.int v4_14), some (.int v5), none]) dX12_tellPlace_253 rfl rfl e_v4_14 (by decide) rfl ?_
        refine aw_goto (tgt := 136) dX12_tellPlace_256 (by decide) ?_
        exact aw_le' (hL136 (v4_14, D_13) (Ok.dn h :)) ⟨rfl, ⟨rfl, trivial⟩⟩
    have hJ_159 : ∀ (v4 : Int32) (v5 : Int32) (v6 : Int32) (D : aD), Ok (J_X12_tellPlace_159 v4 v5 v6 D) Kb136 → AW G (aRm 3 0 0) M_X12_tellPlace fr 0 0 159 [some (.ref 88), none, none, none, some (.int v4), some (.int v5), some (.int v6)] [] shp D (aQv shp K) := by
      intro v4 v5 v6 D h
      unfold J_X12_tellPlace_159 at h
      refine Ok.lp (P := fun s => AW G (aRm 3 0 0) M_X12_tellPlace fr 0 0 159 [some (.ref 88), none, none, none, some (.int v4), some (.int (s.1)), some (.int (s.2.1))] [] shp s.2.2 (aQv shp K)) (fun s Kb159 hL159 hR159 h => ?_) (v5, v6, D) (Ok.bind h)
      obtain ⟨v5, v6, D⟩ := s
      replace h : Ok (B_X12_tellPlace_159 v4 v5 v6 D) Kb159 := h
      unfold B_X12_tellPlace_159 at h
      refine aw_iload (n := 161) (i := 6) dX12_tellPlace_159 rfl rfl ?_
      refine aw_aload_n (n := 162) (i := 0) dX12_tellPlace_161 rfl rfl rfl ?_
      refine aw_getR (n := 165) (j := 3) (r := 91) hG.1 fl_RX12_27 (sF_88 hS) rfl dX12_tellPlace_162 rfl ?_
      refine aw_iconst (n := 166) (v := 2) dX12_tellPlace_165 rfl (by decide) ?_
      obtain ⟨g_15, h⟩ := Ok.gd h
      refine aw_iaload (n := 167) hG.1 (sF_91 hS) (aIn_in g_15) dX12_tellPlace_166 rfl ?_
      refine aw_icmp_ge (n := 170) (tgt := 205) dX12_tellPlace_167 rfl (by decide) (fun c => ?_) (fun c => ?_)
      · replace h := Ok.ift h c
        exact aw_le' (hJ_205 v4 v5 D (hR159 (v5, D) (Ok.dn h :))) ⟨rfl, ⟨rfl, ⟨rfl, trivial⟩⟩⟩
      · replace h := Ok.iff h c
        refine aw_iload (n := 172) (i := 5) dX12_tellPlace_170 rfl rfl ?_
        refine aw_aload_n (n := 173) (i := 0) dX12_tellPlace_172 rfl rfl rfl ?_
        refine aw_getR (n := 176) (j := 15) (r := 103) hG.1 fl_RX12_63 (sF_88 hS) rfl dX12_tellPlace_173 rfl ?_
        refine aw_bipush (n := 178) (v := 6) dX12_tellPlace_176 rfl (by decide) ?_
        refine aw_iload (n := 180) (i := 6) dX12_tellPlace_178 rfl rfl ?_
        refine aw_imul (n := 181) dX12_tellPlace_180 rfl ?_
        refine aw_iload (n := 183) (i := 4) dX12_tellPlace_181 rfl rfl ?_
        refine aw_iadd (n := 184) dX12_tellPlace_183 rfl ?_
        obtain ⟨g_16, h⟩ := Ok.gd h
        refine aw_iaload (n := 185) hG.1 (sF_103 hS) (aIn_in g_16) dX12_tellPlace_184 rfl ?_
        refine aw_aload_n (n := 186) (i := 0) dX12_tellPlace_185 rfl rfl rfl ?_
        refine aw_getR (n := 189) (j := 34) (r := 108) hG.1 fl_RX12_85 (sF_88 hS) rfl dX12_tellPlace_186 rfl ?_
        refine aw_iload (n := 191) (i := 6) dX12_tellPlace_189 rfl rfl ?_
        obtain ⟨g_17, h⟩ := Ok.gd h
        refine aw_iaload (n := 192) hG.1 (sF_108 hS) (aIn_in g_17) dX12_tellPlace_191 rfl ?_
        refine aw_imul (n := 193) dX12_tellPlace_192 rfl ?_
        refine aw_bipush (n := 195) (v := 100) dX12_tellPlace_193 rfl (by decide) ?_
        refine aw_idiv (n := 196) dX12_tellPlace_195 rfl (by decide) ?_
        refine aw_isub (n := 197) dX12_tellPlace_196 rfl ?_
        obtain ⟨v5_18, e_v5_18, h⟩ := Ok.let_ h
        refine aw_istore (n := 199) (i := 5) (al' := [some (.ref 88), none, none, none, some (.int v4), some (.int v5_18), some (.int v6)]) dX12_tellPlace_197 rfl e_v5_18 (by decide) rfl ?_
        obtain ⟨v6_19, e_v6_19, h⟩ := Ok.let_ h
        refine aw_iinc (n := 202) (al' := [some (.ref 88), none, none, none, some (.int v4), some (.int v5_18), some (.int v6_19)]) dX12_tellPlace_199 rfl rfl e_v6_19 (by decide) rfl ?_
        refine aw_goto (tgt := 159) dX12_tellPlace_202 (by decide) ?_
        exact aw_le' (hL159 (v5_18, v6_19, D) (Ok.dn h :)) ⟨rfl, ⟨rfl, ⟨rfl, ⟨rfl, trivial⟩⟩⟩⟩
    refine aw_iload (n := 138) (i := 4) dX12_tellPlace_136 rfl rfl ?_
    refine aw_aload_n (n := 139) (i := 0) dX12_tellPlace_138 rfl rfl rfl ?_
    refine aw_getR (n := 142) (j := 3) (r := 91) hG.1 fl_RX12_27 (sF_88 hS) rfl dX12_tellPlace_139 rfl ?_
    refine aw_iconst (n := 143) (v := 2) dX12_tellPlace_142 rfl (by decide) ?_
    obtain ⟨g_1, h⟩ := Ok.gd h
    refine aw_iaload (n := 144) hG.1 (sF_91 hS) (aIn_in g_1) dX12_tellPlace_143 rfl ?_
    refine aw_icmp_ge (n := 147) (tgt := 259) dX12_tellPlace_144 rfl (by decide) (fun c => ?_) (fun c => ?_)
    · replace h := Ok.ift h c
      exact aw_le' (hJ_259 D (hR136 D (Ok.dn h :))) trivial
    · replace h := Ok.iff h c
      refine aw_aload_n (n := 148) (i := 0) dX12_tellPlace_147 rfl rfl rfl ?_
      refine aw_getR (n := 151) (j := 34) (r := 108) hG.1 fl_RX12_85 (sF_88 hS) rfl dX12_tellPlace_148 rfl ?_
      refine aw_iload (n := 153) (i := 4) dX12_tellPlace_151 rfl rfl ?_
      obtain ⟨g_2, h⟩ := Ok.gd h
      refine aw_iaload (n := 154) hG.1 (sF_108 hS) (aIn_in g_2) dX12_tellPlace_153 rfl ?_
      obtain ⟨v5_3, e_v5_3, h⟩ := Ok.let_ h
      refine aw_istore (n := 156) (i := 5) (al' := [some (.ref 88), none, none, none, some (.int v4), some (.int v5_3), none]) dX12_tellPlace_154 rfl e_v5_3 (by decide) rfl ?_
      refine aw_iconst (n := 157) (v := 0) dX12_tellPlace_156 rfl (by decide) ?_
      refine aw_istore (n := 159) (i := 6) (al' := [some (.ref 88), none, none, none, some (.int v4), some (.int v5_3), some (.int 0)]) dX12_tellPlace_157 rfl rfl (by decide) rfl ?_
      exact aw_le' (hJ_159 v4 v5_3 0 D h) ⟨rfl, ⟨rfl, ⟨rfl, ⟨rfl, trivial⟩⟩⟩⟩
  have hJ_133 : ∀ (D : aD), Ok (J_X12_tellPlace_133 D) K → AW G (aRm 3 0 0) M_X12_tellPlace fr 0 0 133 [some (.ref 88), none, none, none, none, none, none] [] shp D (aQv shp K) := by
    intro D h
    unfold J_X12_tellPlace_133 at h
    refine aw_iconst (n := 134) (v := 0) dX12_tellPlace_133 rfl (by decide) ?_
    refine aw_istore (n := 136) (i := 4) (al' := [some (.ref 88), none, none, none, some (.int 0), none, none]) dX12_tellPlace_134 rfl rfl (by decide) rfl ?_
    exact aw_le' (hJ_136 0 D h) ⟨rfl, ⟨rfl, trivial⟩⟩
  have hJ_51 : ∀ (v1 : Int32) (v2 : Int32) (v3 : Int32) (v4 : Int32) (D : aD), Ok (J_X12_tellPlace_51 v1 v2 v3 v4 D) K → AW G (aRm 3 0 0) M_X12_tellPlace fr 0 0 51 [some (.ref 88), some (.int v1), some (.int v2), some (.int v3), some (.int v4), none, none] [] shp D (aQv shp K) := by
    intro v1 v2 v3 v4 D h
    unfold J_X12_tellPlace_51 at h
    refine Ok.lp (P := fun s => AW G (aRm 3 0 0) M_X12_tellPlace fr 0 0 51 [some (.ref 88), some (.int v1), some (.int v2), some (.int v3), some (.int (s.1)), none, none] [] shp s.2 (aQv shp K)) (fun s Kb51 hL51 hR51 h => ?_) (v4, D) (Ok.bind h)
    obtain ⟨v4, D⟩ := s
    replace h : Ok (B_X12_tellPlace_51 v1 v2 v3 v4 D) Kb51 := h
    unfold B_X12_tellPlace_51 at h
    refine aw_iload (n := 53) (i := 4) dX12_tellPlace_51 rfl rfl ?_
    refine aw_aload_n (n := 54) (i := 0) dX12_tellPlace_53 rfl rfl rfl ?_
    refine aw_getI (n := 57) (j := 30) hG.1 fl_RX12_303 (sF_88 hS) rfl dX12_tellPlace_54 rfl ?_
    refine aw_icmp_ge (n := 60) (tgt := 133) dX12_tellPlace_57 rfl (by decide) (fun c => ?_) (fun c => ?_)
    · replace h := Ok.ift h c
      exact aw_le' (hJ_133 D (hR51 D (Ok.dn h :))) ⟨rfl, trivial⟩
    · replace h := Ok.iff h c
      refine aw_aload_n (n := 61) (i := 0) dX12_tellPlace_60 rfl rfl rfl ?_
      refine aw_iload (n := 63) (i := 4) dX12_tellPlace_61 rfl rfl ?_
      refine aw_iload_n (n := 64) (i := 1) dX12_tellPlace_63 rfl rfl rfl ?_
      refine aw_iload_n (n := 65) (i := 2) dX12_tellPlace_64 rfl rfl rfl ?_
      refine aw_iload_n (n := 66) (i := 3) dX12_tellPlace_65 rfl rfl rfl ?_
      refine aw_cVi (M := M_X12_tellPlace) (n := 69) (As := [.int v4, .int v1, .int v2, .int v3]) (rest := []) hG.1 lk_RX12_332 rfl rfl (sF_88 hS) (c_X12_smellOf hG hS (h := Ok.bi h)) (by decide) (Nat.le_of_ble_eq_true rfl) (by decide) (by decide) dX12_tellPlace_66 rfl (fun y_20 D_21 h => ?_)
      refine aw_istore (n := 71) (i := 5) (al' := [some (.ref 88), some (.int v1), some (.int v2), some (.int v3), some (.int v4), some (.int y_20), none]) dX12_tellPlace_69 rfl rfl (by decide) rfl ?_
      refine aw_aload_n (n := 72) (i := 0) dX12_tellPlace_71 rfl rfl rfl ?_
      refine aw_getR (n := 75) (j := 34) (r := 108) hG.1 fl_RX12_85 (sF_88 hS) rfl dX12_tellPlace_72 rfl ?_
      refine aw_aload_n (n := 76) (i := 0) dX12_tellPlace_75 rfl rfl rfl ?_
      refine aw_getR (n := 79) (j := 11) (r := 99) hG.1 fl_RX12_51 (sF_88 hS) rfl dX12_tellPlace_76 rfl ?_
      refine aw_iload (n := 81) (i := 4) dX12_tellPlace_79 rfl rfl ?_
      obtain ⟨g_22, h⟩ := Ok.gd h
      refine aw_iaload (n := 82) hG.1 (sF_99 hS) (aIn_in g_22) dX12_tellPlace_81 rfl ?_
      refine aw_dup2 (n := 83) dX12_tellPlace_82 rfl rfl rfl ?_
      obtain ⟨g_23, h⟩ := Ok.gd h
      refine aw_iaload (n := 84) hG.1 (sF_108 hS) (aIn_in g_23) dX12_tellPlace_83 rfl ?_
      refine aw_iload (n := 86) (i := 5) dX12_tellPlace_84 rfl rfl ?_
      refine aw_iadd (n := 87) dX12_tellPlace_86 rfl ?_
      obtain ⟨g_24, h⟩ := Ok.gd h
      obtain ⟨D_25, e_D_25, h⟩ := Ok.let_ h
      refine aw_iastore (n := 88) hG.1 (sF_108 hS) (aIn_in g_24) e_D_25 dX12_tellPlace_87 rfl ?_
      refine aw_aload_n (n := 89) (i := 0) dX12_tellPlace_88 rfl rfl rfl ?_
      refine aw_getR (n := 92) (j := 13) (r := 101) hG.1 fl_RX12_57 (sF_88 hS) rfl dX12_tellPlace_89 rfl ?_
      refine aw_iload (n := 94) (i := 4) dX12_tellPlace_92 rfl rfl ?_
      obtain ⟨g_26, h⟩ := Ok.gd h
      refine aw_iaload (n := 95) hG.1 (sF_101 hS) (aIn_in g_26) dX12_tellPlace_94 rfl ?_
      refine aw_iconst (n := 96) (v := (-1)) dX12_tellPlace_95 rfl (by decide) ?_
      refine aw_icmp_eq (n := 99) (tgt := 127) dX12_tellPlace_96 rfl (by decide) (fun c => ?_) (fun c => ?_)
      · replace h := Ok.ift h c
        obtain ⟨v4_27, e_v4_27, h⟩ := Ok.let_ h
        refine aw_iinc (n := 130) (al' := [some (.ref 88), some (.int v1), some (.int v2), some (.int v3), some (.int v4_27), some (.int y_20), none]) dX12_tellPlace_127 rfl rfl e_v4_27 (by decide) rfl ?_
        refine aw_goto (tgt := 51) dX12_tellPlace_130 (by decide) ?_
        exact aw_le' (hL51 (v4_27, D_25) (Ok.dn h :)) ⟨rfl, ⟨rfl, ⟨rfl, ⟨rfl, ⟨rfl, trivial⟩⟩⟩⟩⟩
      · replace h := Ok.iff h c
        refine aw_aload_n (n := 100) (i := 0) dX12_tellPlace_99 rfl rfl rfl ?_
        refine aw_getR (n := 103) (j := 35) (r := 109) hG.1 fl_RX12_88 (sF_88 hS) rfl dX12_tellPlace_100 rfl ?_
        refine aw_bipush (n := 105) (v := 6) dX12_tellPlace_103 rfl (by decide) ?_
        refine aw_aload_n (n := 106) (i := 0) dX12_tellPlace_105 rfl rfl rfl ?_
        refine aw_getR (n := 109) (j := 13) (r := 101) hG.1 fl_RX12_57 (sF_88 hS) rfl dX12_tellPlace_106 rfl ?_
        refine aw_iload (n := 111) (i := 4) dX12_tellPlace_109 rfl rfl ?_
        obtain ⟨g_28, h⟩ := Ok.gd h
        refine aw_iaload (n := 112) hG.1 (sF_101 hS) (aIn_in g_28) dX12_tellPlace_111 rfl ?_
        refine aw_imul (n := 113) dX12_tellPlace_112 rfl ?_
        refine aw_aload_n (n := 114) (i := 0) dX12_tellPlace_113 rfl rfl rfl ?_
        refine aw_getR (n := 117) (j := 11) (r := 99) hG.1 fl_RX12_51 (sF_88 hS) rfl dX12_tellPlace_114 rfl ?_
        refine aw_iload (n := 119) (i := 4) dX12_tellPlace_117 rfl rfl ?_
        obtain ⟨g_29, h⟩ := Ok.gd h
        refine aw_iaload (n := 120) hG.1 (sF_99 hS) (aIn_in g_29) dX12_tellPlace_119 rfl ?_
        refine aw_iadd (n := 121) dX12_tellPlace_120 rfl ?_
        refine aw_dup2 (n := 122) dX12_tellPlace_121 rfl rfl rfl ?_
        obtain ⟨g_30, h⟩ := Ok.gd h
        refine aw_iaload (n := 123) hG.1 (sF_109 hS) (aIn_in g_30) dX12_tellPlace_122 rfl ?_
        refine aw_iload (n := 125) (i := 5) dX12_tellPlace_123 rfl rfl ?_
        refine aw_iadd (n := 126) dX12_tellPlace_125 rfl ?_
        obtain ⟨g_31, h⟩ := Ok.gd h
        obtain ⟨D_32, e_D_32, h⟩ := Ok.let_ h
        refine aw_iastore (n := 127) hG.1 (sF_109 hS) (aIn_in g_31) e_D_32 dX12_tellPlace_126 rfl ?_
        obtain ⟨v4_33, e_v4_33, h⟩ := Ok.let_ h
        refine aw_iinc (n := 130) (al' := [some (.ref 88), some (.int v1), some (.int v2), some (.int v3), some (.int v4_33), some (.int y_20), none]) dX12_tellPlace_127 rfl rfl e_v4_33 (by decide) rfl ?_
        refine aw_goto (tgt := 51) dX12_tellPlace_130 (by decide) ?_
        exact aw_le' (hL51 (v4_33, D_32) (Ok.dn h :)) ⟨rfl, ⟨rfl, ⟨rfl, ⟨rfl, ⟨rfl, trivial⟩⟩⟩⟩⟩
  have hJ_48 : ∀ (v1 : Int32) (v2 : Int32) (v3 : Int32) (D : aD), Ok (J_X12_tellPlace_48 v1 v2 v3 D) K → AW G (aRm 3 0 0) M_X12_tellPlace fr 0 0 48 [some (.ref 88), some (.int v1), some (.int v2), some (.int v3), none, none, none] [] shp D (aQv shp K) := by
    intro v1 v2 v3 D h
    unfold J_X12_tellPlace_48 at h
    refine aw_iconst (n := 49) (v := 0) dX12_tellPlace_48 rfl (by decide) ?_
    refine aw_istore (n := 51) (i := 4) (al' := [some (.ref 88), some (.int v1), some (.int v2), some (.int v3), some (.int 0), none, none]) dX12_tellPlace_49 rfl rfl (by decide) rfl ?_
    exact aw_le' (hJ_51 v1 v2 v3 0 D h) ⟨rfl, ⟨rfl, ⟨rfl, ⟨rfl, ⟨rfl, trivial⟩⟩⟩⟩⟩
  have hJ_27 : ∀ (v1 : Int32) (v2 : Int32) (v3 : Int32) (v4 : Int32) (D : aD), Ok (J_X12_tellPlace_27 v1 v2 v3 v4 D) K → AW G (aRm 3 0 0) M_X12_tellPlace fr 0 0 27 [some (.ref 88), some (.int v1), some (.int v2), some (.int v3), some (.int v4), none, none] [] shp D (aQv shp K) := by
    intro v1 v2 v3 v4 D h
    unfold J_X12_tellPlace_27 at h
    refine Ok.lp (P := fun s => AW G (aRm 3 0 0) M_X12_tellPlace fr 0 0 27 [some (.ref 88), some (.int v1), some (.int v2), some (.int v3), some (.int (s.1)), none, none] [] shp s.2 (aQv shp K)) (fun s Kb27 hL27 hR27 h => ?_) (v4, D) (Ok.bind h)
    obtain ⟨v4, D⟩ := s
    replace h : Ok (B_X12_tellPlace_27 v1 v2 v3 v4 D) Kb27 := h
    unfold B_X12_tellPlace_27 at h
    refine aw_iload (n := 29) (i := 4) dX12_tellPlace_27 rfl rfl ?_
    refine aw_bipush (n := 31) (v := 30) dX12_tellPlace_29 rfl (by decide) ?_
    refine aw_icmp_ge (n := 34) (tgt := 48) dX12_tellPlace_31 rfl (by decide) (fun c => ?_) (fun c => ?_)
    · replace h := Ok.ift h c
      exact aw_le' (hJ_48 v1 v2 v3 D (hR27 D (Ok.dn h :))) ⟨rfl, ⟨rfl, ⟨rfl, ⟨rfl, trivial⟩⟩⟩⟩
    · replace h := Ok.iff h c
      refine aw_aload_n (n := 35) (i := 0) dX12_tellPlace_34 rfl rfl rfl ?_
      refine aw_getR (n := 38) (j := 35) (r := 109) hG.1 fl_RX12_88 (sF_88 hS) rfl dX12_tellPlace_35 rfl ?_
      refine aw_iload (n := 40) (i := 4) dX12_tellPlace_38 rfl rfl ?_
      refine aw_iconst (n := 41) (v := 0) dX12_tellPlace_40 rfl (by decide) ?_
      obtain ⟨g_34, h⟩ := Ok.gd h
      obtain ⟨D_35, e_D_35, h⟩ := Ok.let_ h
      refine aw_iastore (n := 42) hG.1 (sF_109 hS) (aIn_in g_34) e_D_35 dX12_tellPlace_41 rfl ?_
      obtain ⟨v4_36, e_v4_36, h⟩ := Ok.let_ h
      refine aw_iinc (n := 45) (al' := [some (.ref 88), some (.int v1), some (.int v2), some (.int v3), some (.int v4_36), none, none]) dX12_tellPlace_42 rfl rfl e_v4_36 (by decide) rfl ?_
      refine aw_goto (tgt := 27) dX12_tellPlace_45 (by decide) ?_
      exact aw_le' (hL27 (v4_36, D_35) (Ok.dn h :)) ⟨rfl, ⟨rfl, ⟨rfl, ⟨rfl, ⟨rfl, trivial⟩⟩⟩⟩⟩
  have hJ_24 : ∀ (v1 : Int32) (v2 : Int32) (v3 : Int32) (D : aD), Ok (J_X12_tellPlace_24 v1 v2 v3 D) K → AW G (aRm 3 0 0) M_X12_tellPlace fr 0 0 24 [some (.ref 88), some (.int v1), some (.int v2), some (.int v3), none, none, none] [] shp D (aQv shp K) := by
    intro v1 v2 v3 D h
    unfold J_X12_tellPlace_24 at h
    refine aw_iconst (n := 25) (v := 0) dX12_tellPlace_24 rfl (by decide) ?_
    refine aw_istore (n := 27) (i := 4) (al' := [some (.ref 88), some (.int v1), some (.int v2), some (.int v3), some (.int 0), none, none]) dX12_tellPlace_25 rfl rfl (by decide) rfl ?_
    exact aw_le' (hJ_27 v1 v2 v3 0 D h) ⟨rfl, ⟨rfl, ⟨rfl, ⟨rfl, ⟨rfl, trivial⟩⟩⟩⟩⟩
  have hJ_3 : ∀ (v1 : Int32) (v2 : Int32) (v3 : Int32) (v4 : Int32) (D : aD), Ok (J_X12_tellPlace_3 v1 v2 v3 v4 D) K → AW G (aRm 3 0 0) M_X12_tellPlace fr 0 0 3 [some (.ref 88), some (.int v1), some (.int v2), some (.int v3), some (.int v4), none, none] [] shp D (aQv shp K) := by
    intro v1 v2 v3 v4 D h
    unfold J_X12_tellPlace_3 at h
    refine Ok.lp (P := fun s => AW G (aRm 3 0 0) M_X12_tellPlace fr 0 0 3 [some (.ref 88), some (.int v1), some (.int v2), some (.int v3), some (.int (s.1)), none, none] [] shp s.2 (aQv shp K)) (fun s Kb3 hL3 hR3 h => ?_) (v4, D) (Ok.bind h)
    obtain ⟨v4, D⟩ := s
    replace h : Ok (B_X12_tellPlace_3 v1 v2 v3 v4 D) Kb3 := h
    unfold B_X12_tellPlace_3 at h
    refine aw_iload (n := 5) (i := 4) dX12_tellPlace_3 rfl rfl ?_
    refine aw_bipush (n := 7) (v := 6) dX12_tellPlace_5 rfl (by decide) ?_
    refine aw_icmp_ge (n := 10) (tgt := 24) dX12_tellPlace_7 rfl (by decide) (fun c => ?_) (fun c => ?_)
    · replace h := Ok.ift h c
      exact aw_le' (hJ_24 v1 v2 v3 D (hR3 D (Ok.dn h :))) ⟨rfl, ⟨rfl, ⟨rfl, ⟨rfl, trivial⟩⟩⟩⟩
    · replace h := Ok.iff h c
      refine aw_aload_n (n := 11) (i := 0) dX12_tellPlace_10 rfl rfl rfl ?_
      refine aw_getR (n := 14) (j := 34) (r := 108) hG.1 fl_RX12_85 (sF_88 hS) rfl dX12_tellPlace_11 rfl ?_
      refine aw_iload (n := 16) (i := 4) dX12_tellPlace_14 rfl rfl ?_
      refine aw_iconst (n := 17) (v := 0) dX12_tellPlace_16 rfl (by decide) ?_
      obtain ⟨g_37, h⟩ := Ok.gd h
      obtain ⟨D_38, e_D_38, h⟩ := Ok.let_ h
      refine aw_iastore (n := 18) hG.1 (sF_108 hS) (aIn_in g_37) e_D_38 dX12_tellPlace_17 rfl ?_
      obtain ⟨v4_39, e_v4_39, h⟩ := Ok.let_ h
      refine aw_iinc (n := 21) (al' := [some (.ref 88), some (.int v1), some (.int v2), some (.int v3), some (.int v4_39), none, none]) dX12_tellPlace_18 rfl rfl e_v4_39 (by decide) rfl ?_
      refine aw_goto (tgt := 3) dX12_tellPlace_21 (by decide) ?_
      exact aw_le' (hL3 (v4_39, D_38) (Ok.dn h :)) ⟨rfl, ⟨rfl, ⟨rfl, ⟨rfl, ⟨rfl, trivial⟩⟩⟩⟩⟩
  refine aw_iconst (n := 1) (v := 0) dX12_tellPlace_0 rfl (by decide) ?_
  refine aw_istore (n := 3) (i := 4) (al' := [some (.ref 88), some (.int v1), some (.int v2), some (.int v3), some (.int 0), none, none]) dX12_tellPlace_1 rfl rfl (by decide) rfl ?_
  exact aw_le' (hJ_3 v1 v2 v3 0 D h) ⟨rfl, ⟨rfl, ⟨rfl, ⟨rfl, ⟨rfl, trivial⟩⟩⟩⟩⟩
theorem dX12_smelt_0 : decode cX12_smelt 0 = .ok (.aload_n 0, 1) := by decide +kernel
theorem dX12_smelt_1 : decode cX12_smelt 1 = .ok (.iconst 0, 1) := by decide +kernel
theorem dX12_smelt_2 : decode cX12_smelt 2 = .ok (.putfield 157, 3) := by decide +kernel
theorem dX12_smelt_5 : decode cX12_smelt 5 = .ok (.aload_n 0, 1) := by decide +kernel
theorem dX12_smelt_6 : decode cX12_smelt 6 = .ok (.iload_n 1, 1) := by decide +kernel
theorem dX12_smelt_7 : decode cX12_smelt 7 = .ok (.invokevirtual 336, 3) := by decide +kernel
theorem dX12_smelt_10 : decode cX12_smelt 10 = .ok (.ifCond .eq 24, 3) := by decide +kernel
theorem dX12_smelt_13 : decode cX12_smelt 13 = .ok (.aload_n 0, 1) := by decide +kernel
theorem dX12_smelt_14 : decode cX12_smelt 14 = .ok (.iload_n 2, 1) := by decide +kernel
theorem dX12_smelt_15 : decode cX12_smelt 15 = .ok (.iload_n 3, 1) := by decide +kernel
theorem dX12_smelt_16 : decode cX12_smelt 16 = .ok (.iload 4, 2) := by decide +kernel
theorem dX12_smelt_18 : decode cX12_smelt 18 = .ok (.invokevirtual 329, 3) := by decide +kernel
theorem dX12_smelt_21 : decode cX12_smelt 21 = .ok (.ifCond .eq 13, 3) := by decide +kernel
theorem dX12_smelt_24 : decode cX12_smelt 24 = .ok (.iload 5, 2) := by decide +kernel
theorem dX12_smelt_26 : decode cX12_smelt 26 = .ok (.iconst 0, 1) := by decide +kernel
theorem dX12_smelt_27 : decode cX12_smelt 27 = .ok (.iconst 2, 1) := by decide +kernel
theorem dX12_smelt_28 : decode cX12_smelt 28 = .ok (.invokestatic 160, 3) := by decide +kernel
theorem dX12_smelt_31 : decode cX12_smelt 31 = .ok (.ifCond .ne 9, 3) := by decide +kernel
theorem dX12_smelt_34 : decode cX12_smelt 34 = .ok (.aload_n 0, 1) := by decide +kernel
theorem dX12_smelt_35 : decode cX12_smelt 35 = .ok (.iconst 1, 1) := by decide +kernel
theorem dX12_smelt_36 : decode cX12_smelt 36 = .ok (.invokevirtual 290, 3) := by decide +kernel
theorem dX12_smelt_39 : decode cX12_smelt 39 = .ok (.ireturn, 1) := by decide +kernel
theorem dX12_smelt_40 : decode cX12_smelt 40 = .ok (.aload_n 0, 1) := by decide +kernel
theorem dX12_smelt_41 : decode cX12_smelt 41 = .ok (.iload_n 2, 1) := by decide +kernel
theorem dX12_smelt_42 : decode cX12_smelt 42 = .ok (.iload_n 3, 1) := by decide +kernel
theorem dX12_smelt_43 : decode cX12_smelt 43 = .ok (.iload 4, 2) := by decide +kernel
theorem dX12_smelt_45 : decode cX12_smelt 45 = .ok (.invokevirtual 339, 3) := by decide +kernel
theorem dX12_smelt_48 : decode cX12_smelt 48 = .ok (.iload 5, 2) := by decide +kernel
theorem dX12_smelt_50 : decode cX12_smelt 50 = .ok (.ifCond .ne 12, 3) := by decide +kernel
theorem dX12_smelt_53 : decode cX12_smelt 53 = .ok (.aload_n 0, 1) := by decide +kernel
theorem dX12_smelt_54 : decode cX12_smelt 54 = .ok (.getfield 85, 3) := by decide +kernel
theorem dX12_smelt_57 : decode cX12_smelt 57 = .ok (.iload_n 1, 1) := by decide +kernel
theorem dX12_smelt_58 : decode cX12_smelt 58 = .ok (.iaload, 1) := by decide +kernel
theorem dX12_smelt_59 : decode cX12_smelt 59 = .ok (.goto 24, 3) := by decide +kernel
theorem dX12_smelt_62 : decode cX12_smelt 62 = .ok (.iload 5, 2) := by decide +kernel
theorem dX12_smelt_64 : decode cX12_smelt 64 = .ok (.iconst 1, 1) := by decide +kernel
theorem dX12_smelt_65 : decode cX12_smelt 65 = .ok (.if_icmp .ne 12, 3) := by decide +kernel
theorem dX12_smelt_68 : decode cX12_smelt 68 = .ok (.aload_n 0, 1) := by decide +kernel
theorem dX12_smelt_69 : decode cX12_smelt 69 = .ok (.getfield 91, 3) := by decide +kernel
theorem dX12_smelt_72 : decode cX12_smelt 72 = .ok (.iload_n 1, 1) := by decide +kernel
theorem dX12_smelt_73 : decode cX12_smelt 73 = .ok (.iaload, 1) := by decide +kernel
theorem dX12_smelt_74 : decode cX12_smelt 74 = .ok (.goto 9, 3) := by decide +kernel
theorem dX12_smelt_77 : decode cX12_smelt 77 = .ok (.aload_n 0, 1) := by decide +kernel
theorem dX12_smelt_78 : decode cX12_smelt 78 = .ok (.getfield 94, 3) := by decide +kernel
theorem dX12_smelt_81 : decode cX12_smelt 81 = .ok (.iload_n 1, 1) := by decide +kernel
theorem dX12_smelt_82 : decode cX12_smelt 82 = .ok (.iaload, 1) := by decide +kernel
theorem dX12_smelt_83 : decode cX12_smelt 83 = .ok (.ireturn, 1) := by decide +kernel
def f_X12_smelt (v1 : Int32) (v2 : Int32) (v3 : Int32) (v4 : Int32) (v5 : Int32) (D : aD) : Option (Int32 × aD) :=
  aLet (pI D 88 2 0) (fun D_1 => aBi (f_X12_isSort v1 D_1) (fun y_2 D_3 => if y_2 = 0 then (aBi (f_X12_fail 1 D_3) (fun y_4 D_5 => some (y_4, D_5))) else (aBi (f_X12_isPlace v2 v3 v4 D_3) (fun y_6 D_7 => if y_6 = 0 then (aBi (f_X12_fail 1 D_7) (fun y_8 D_9 => some (y_8, D_9))) else (aBi (f_X12_isIn v5 0 2 D_7) (fun y_10 D_11 => if y_10 ≠ 0 then ((f_X12_tellPlace v2 v3 v4 D_11).bind (fun D_12 => if v5 ≠ 0 then (if v5 ≠ 1 then (aGd (aIn v1 6) (some (gI D_12 111 v1.toNatClampNeg, D_12))) else (aGd (aIn v1 6) (some (gI D_12 110 v1.toNatClampNeg, D_12)))) else (aGd (aIn v1 6) (some (gI D_12 108 v1.toNatClampNeg, D_12))))) else (aBi (f_X12_fail 1 D_11) (fun y_16 D_17 => some (y_16, D_17)))))))))
set_option maxRecDepth 100000 in
set_option maxHeartbeats 800000 in
theorem c_X12_smelt {G : aG} (hG : gOK G) {shp : List aSh} (hS : aShp shp) {fr : Option Nat} {v1 : Int32} {v2 : Int32} {v3 : Int32} {v4 : Int32} {v5 : Int32} {D : aD} {K : Int32 → aD → Prop} (h : Ok2 (f_X12_smelt v1 v2 v3 v4 v5 D) K) : AC G (aRm 4 0 0) M_X12_smelt [.ref 88, .int v1, .int v2, .int v3, .int v4, .int v5] fr shp D (aQi shp K) := by
  replace h := Ok2.ok h
  unfold f_X12_smelt at h
  refine AC.of (al := [some (.ref 88), some (.int v1), some (.int v2), some (.int v3), some (.int v4), some (.int v5)]) (r := 0) (by decide) (Nat.le_of_ble_eq_true rfl) rfl ?_
  refine aw_aload_n (n := 1) (i := 0) dX12_smelt_0 rfl rfl rfl ?_
  refine aw_iconst (n := 2) (v := 0) dX12_smelt_1 rfl (by decide) ?_
  obtain ⟨D_1, e_D_1, h⟩ := Ok.let_ h
  refine aw_putI (n := 5) (j := 2) hG.1 fl_RX12_157 (sF_88 hS) rfl e_D_1 dX12_smelt_2 rfl ?_
  refine aw_aload_n (n := 6) (i := 0) dX12_smelt_5 rfl rfl rfl ?_
  refine aw_iload_n (n := 7) (i := 1) dX12_smelt_6 rfl rfl rfl ?_
  refine aw_cVi (M := M_X12_smelt) (n := 10) (As := [.int v1]) (rest := []) hG.1 lk_RX12_336 rfl rfl (sF_88 hS) (c_X12_isSort hG hS (h := Ok.bi h)) (by decide) (Nat.le_of_ble_eq_true rfl) (by decide) (by decide) dX12_smelt_7 rfl (fun y_2 D_3 h => ?_)
  refine aw_if_eq (n := 13) (tgt := 34) dX12_smelt_10 rfl (by decide) (fun c => ?_) (fun c => ?_)
  · replace h := Ok.ift h c
    refine aw_aload_n (n := 35) (i := 0) dX12_smelt_34 rfl rfl rfl ?_
    refine aw_iconst (n := 36) (v := 1) dX12_smelt_35 rfl (by decide) ?_
    refine aw_cVi (M := M_X12_smelt) (n := 39) (As := [.int 1]) (rest := []) hG.1 lk_RX12_290 rfl rfl (sF_88 hS) (c_X12_fail hG hS (h := Ok.bi h)) (by decide) (Nat.le_of_ble_eq_true rfl) (by decide) (by decide) dX12_smelt_36 rfl (fun y_4 D_5 h => ?_)
    exact aw_iret rfl (by decide) (by decide) dX12_smelt_39 ⟨_, rfl, rfl, (Ok.dn h :)⟩
  · replace h := Ok.iff h c
    refine aw_aload_n (n := 14) (i := 0) dX12_smelt_13 rfl rfl rfl ?_
    refine aw_iload_n (n := 15) (i := 2) dX12_smelt_14 rfl rfl rfl ?_
    refine aw_iload_n (n := 16) (i := 3) dX12_smelt_15 rfl rfl rfl ?_
    refine aw_iload (n := 18) (i := 4) dX12_smelt_16 rfl rfl ?_
    refine aw_cVi (M := M_X12_smelt) (n := 21) (As := [.int v2, .int v3, .int v4]) (rest := []) hG.1 lk_RX12_329 rfl rfl (sF_88 hS) (c_X12_isPlace hG hS (h := Ok.bi h)) (by decide) (Nat.le_of_ble_eq_true rfl) (by decide) (by decide) dX12_smelt_18 rfl (fun y_6 D_7 h => ?_)
    refine aw_if_eq (n := 24) (tgt := 34) dX12_smelt_21 rfl (by decide) (fun c => ?_) (fun c => ?_)
    · replace h := Ok.ift h c
      refine aw_aload_n (n := 35) (i := 0) dX12_smelt_34 rfl rfl rfl ?_
      refine aw_iconst (n := 36) (v := 1) dX12_smelt_35 rfl (by decide) ?_
      refine aw_cVi (M := M_X12_smelt) (n := 39) (As := [.int 1]) (rest := []) hG.1 lk_RX12_290 rfl rfl (sF_88 hS) (c_X12_fail hG hS (h := Ok.bi h)) (by decide) (Nat.le_of_ble_eq_true rfl) (by decide) (by decide) dX12_smelt_36 rfl (fun y_8 D_9 h => ?_)
      exact aw_iret rfl (by decide) (by decide) dX12_smelt_39 ⟨_, rfl, rfl, (Ok.dn h :)⟩
    · replace h := Ok.iff h c
      refine aw_iload (n := 26) (i := 5) dX12_smelt_24 rfl rfl ?_
      refine aw_iconst (n := 27) (v := 0) dX12_smelt_26 rfl (by decide) ?_
      refine aw_iconst (n := 28) (v := 2) dX12_smelt_27 rfl (by decide) ?_
      refine aw_cSi (M := M_X12_smelt) (n := 31) (As := [.int v5, .int 0, .int 2]) (rest := []) lk_RX12_160 rfl rfl (c_X12_isIn hG hS (h := Ok.bi h)) (by decide) (Nat.le_of_ble_eq_true rfl) (by decide) (by decide) dX12_smelt_28 rfl (fun y_10 D_11 h => ?_)
      refine aw_if_ne (n := 34) (tgt := 40) dX12_smelt_31 rfl (by decide) (fun c => ?_) (fun c => ?_)
      · replace h := Ok.ift h c
        refine aw_aload_n (n := 41) (i := 0) dX12_smelt_40 rfl rfl rfl ?_
        refine aw_iload_n (n := 42) (i := 2) dX12_smelt_41 rfl rfl rfl ?_
        refine aw_iload_n (n := 43) (i := 3) dX12_smelt_42 rfl rfl rfl ?_
        refine aw_iload (n := 45) (i := 4) dX12_smelt_43 rfl rfl ?_
        refine aw_cVv (M := M_X12_smelt) (n := 48) (As := [.int v2, .int v3, .int v4]) (rest := []) hG.1 lk_RX12_339 rfl rfl (sF_88 hS) (c_X12_tellPlace hG hS (h := Ok.bind h)) (by decide) (Nat.le_of_ble_eq_true rfl) (by decide) (by decide) dX12_smelt_45 rfl (fun D_12 h => ?_)
        refine aw_iload (n := 50) (i := 5) dX12_smelt_48 rfl rfl ?_
        refine aw_if_ne (n := 53) (tgt := 62) dX12_smelt_50 rfl (by decide) (fun c => ?_) (fun c => ?_)
        · replace h := Ok.ift h c
          refine aw_iload (n := 64) (i := 5) dX12_smelt_62 rfl rfl ?_
          refine aw_iconst (n := 65) (v := 1) dX12_smelt_64 rfl (by decide) ?_
          refine aw_icmp_ne (n := 68) (tgt := 77) dX12_smelt_65 rfl (by decide) (fun c => ?_) (fun c => ?_)
          · replace h := Ok.ift h c
            refine aw_aload_n (n := 78) (i := 0) dX12_smelt_77 rfl rfl rfl ?_
            refine aw_getR (n := 81) (j := 37) (r := 111) hG.1 fl_RX12_94 (sF_88 hS) rfl dX12_smelt_78 rfl ?_
            refine aw_iload_n (n := 82) (i := 1) dX12_smelt_81 rfl rfl rfl ?_
            obtain ⟨g_13, h⟩ := Ok.gd h
            refine aw_iaload (n := 83) hG.1 (sF_111 hS) (aIn_in g_13) dX12_smelt_82 rfl ?_
            exact aw_iret rfl (by decide) (by decide) dX12_smelt_83 ⟨_, rfl, rfl, (Ok.dn h :)⟩
          · replace h := Ok.iffn h c
            refine aw_aload_n (n := 69) (i := 0) dX12_smelt_68 rfl rfl rfl ?_
            refine aw_getR (n := 72) (j := 36) (r := 110) hG.1 fl_RX12_91 (sF_88 hS) rfl dX12_smelt_69 rfl ?_
            refine aw_iload_n (n := 73) (i := 1) dX12_smelt_72 rfl rfl rfl ?_
            obtain ⟨g_14, h⟩ := Ok.gd h
            refine aw_iaload (n := 74) hG.1 (sF_110 hS) (aIn_in g_14) dX12_smelt_73 rfl ?_
            refine aw_goto (tgt := 83) dX12_smelt_74 (by decide) ?_
            exact aw_iret rfl (by decide) (by decide) dX12_smelt_83 ⟨_, rfl, rfl, (Ok.dn h :)⟩
        · replace h := Ok.iffn h c
          refine aw_aload_n (n := 54) (i := 0) dX12_smelt_53 rfl rfl rfl ?_
          refine aw_getR (n := 57) (j := 34) (r := 108) hG.1 fl_RX12_85 (sF_88 hS) rfl dX12_smelt_54 rfl ?_
          refine aw_iload_n (n := 58) (i := 1) dX12_smelt_57 rfl rfl rfl ?_
          obtain ⟨g_15, h⟩ := Ok.gd h
          refine aw_iaload (n := 59) hG.1 (sF_108 hS) (aIn_in g_15) dX12_smelt_58 rfl ?_
          refine aw_goto (tgt := 83) dX12_smelt_59 (by decide) ?_
          exact aw_iret rfl (by decide) (by decide) dX12_smelt_83 ⟨_, rfl, rfl, (Ok.dn h :)⟩
      · replace h := Ok.iffn h c
        refine aw_aload_n (n := 35) (i := 0) dX12_smelt_34 rfl rfl rfl ?_
        refine aw_iconst (n := 36) (v := 1) dX12_smelt_35 rfl (by decide) ?_
        refine aw_cVi (M := M_X12_smelt) (n := 39) (As := [.int 1]) (rest := []) hG.1 lk_RX12_290 rfl rfl (sF_88 hS) (c_X12_fail hG hS (h := Ok.bi h)) (by decide) (Nat.le_of_ble_eq_true rfl) (by decide) (by decide) dX12_smelt_36 rfl (fun y_16 D_17 h => ?_)
        exact aw_iret rfl (by decide) (by decide) dX12_smelt_39 ⟨_, rfl, rfl, (Ok.dn h :)⟩
theorem dX12_markOf_0 : decode cX12_markOf 0 = .ok (.iconst 0, 1) := by decide +kernel
theorem dX12_markOf_1 : decode cX12_markOf 1 = .ok (.istore_n 2, 1) := by decide +kernel
theorem dX12_markOf_2 : decode cX12_markOf 2 = .ok (.iconst 0, 1) := by decide +kernel
theorem dX12_markOf_3 : decode cX12_markOf 3 = .ok (.istore_n 3, 1) := by decide +kernel
theorem dX12_markOf_4 : decode cX12_markOf 4 = .ok (.iload_n 3, 1) := by decide +kernel
theorem dX12_markOf_5 : decode cX12_markOf 5 = .ok (.aload_n 0, 1) := by decide +kernel
theorem dX12_markOf_6 : decode cX12_markOf 6 = .ok (.getfield 27, 3) := by decide +kernel
theorem dX12_markOf_9 : decode cX12_markOf 9 = .ok (.iconst 2, 1) := by decide +kernel
theorem dX12_markOf_10 : decode cX12_markOf 10 = .ok (.iaload, 1) := by decide +kernel
theorem dX12_markOf_11 : decode cX12_markOf 11 = .ok (.if_icmp .ge 57, 3) := by decide +kernel
theorem dX12_markOf_14 : decode cX12_markOf 14 = .ok (.iload_n 2, 1) := by decide +kernel
theorem dX12_markOf_15 : decode cX12_markOf 15 = .ok (.aload_n 0, 1) := by decide +kernel
theorem dX12_markOf_16 : decode cX12_markOf 16 = .ok (.getfield 85, 3) := by decide +kernel
theorem dX12_markOf_19 : decode cX12_markOf 19 = .ok (.iload_n 3, 1) := by decide +kernel
theorem dX12_markOf_20 : decode cX12_markOf 20 = .ok (.iaload, 1) := by decide +kernel
theorem dX12_markOf_21 : decode cX12_markOf 21 = .ok (.ifCond .ne 7, 3) := by decide +kernel
theorem dX12_markOf_24 : decode cX12_markOf 24 = .ok (.iconst 0, 1) := by decide +kernel
theorem dX12_markOf_25 : decode cX12_markOf 25 = .ok (.goto 35, 3) := by decide +kernel
theorem dX12_markOf_28 : decode cX12_markOf 28 = .ok (.aload_n 0, 1) := by decide +kernel
theorem dX12_markOf_29 : decode cX12_markOf 29 = .ok (.getfield 45, 3) := by decide +kernel
theorem dX12_markOf_32 : decode cX12_markOf 32 = .ok (.iload_n 3, 1) := by decide +kernel
theorem dX12_markOf_33 : decode cX12_markOf 33 = .ok (.iaload, 1) := by decide +kernel
theorem dX12_markOf_34 : decode cX12_markOf 34 = .ok (.aload_n 0, 1) := by decide +kernel
theorem dX12_markOf_35 : decode cX12_markOf 35 = .ok (.getfield 94, 3) := by decide +kernel
theorem dX12_markOf_38 : decode cX12_markOf 38 = .ok (.iload_n 3, 1) := by decide +kernel
theorem dX12_markOf_39 : decode cX12_markOf 39 = .ok (.iaload, 1) := by decide +kernel
theorem dX12_markOf_40 : decode cX12_markOf 40 = .ok (.aload_n 0, 1) := by decide +kernel
theorem dX12_markOf_41 : decode cX12_markOf 41 = .ok (.getfield 88, 3) := by decide +kernel
theorem dX12_markOf_44 : decode cX12_markOf 44 = .ok (.bipush 6, 2) := by decide +kernel
theorem dX12_markOf_46 : decode cX12_markOf 46 = .ok (.iload_n 1, 1) := by decide +kernel
theorem dX12_markOf_47 : decode cX12_markOf 47 = .ok (.imul, 1) := by decide +kernel
theorem dX12_markOf_48 : decode cX12_markOf 48 = .ok (.iload_n 3, 1) := by decide +kernel
theorem dX12_markOf_49 : decode cX12_markOf 49 = .ok (.iadd, 1) := by decide +kernel
theorem dX12_markOf_50 : decode cX12_markOf 50 = .ok (.iaload, 1) := by decide +kernel
theorem dX12_markOf_51 : decode cX12_markOf 51 = .ok (.imul, 1) := by decide +kernel
theorem dX12_markOf_52 : decode cX12_markOf 52 = .ok (.aload_n 0, 1) := by decide +kernel
theorem dX12_markOf_53 : decode cX12_markOf 53 = .ok (.getfield 85, 3) := by decide +kernel
theorem dX12_markOf_56 : decode cX12_markOf 56 = .ok (.iload_n 3, 1) := by decide +kernel
theorem dX12_markOf_57 : decode cX12_markOf 57 = .ok (.iaload, 1) := by decide +kernel
theorem dX12_markOf_58 : decode cX12_markOf 58 = .ok (.idiv, 1) := by decide +kernel
theorem dX12_markOf_59 : decode cX12_markOf 59 = .ok (.imul, 1) := by decide +kernel
theorem dX12_markOf_60 : decode cX12_markOf 60 = .ok (.iadd, 1) := by decide +kernel
theorem dX12_markOf_61 : decode cX12_markOf 61 = .ok (.istore_n 2, 1) := by decide +kernel
theorem dX12_markOf_62 : decode cX12_markOf 62 = .ok (.iinc 3 1, 3) := by decide +kernel
theorem dX12_markOf_65 : decode cX12_markOf 65 = .ok (.goto (-61), 3) := by decide +kernel
theorem dX12_markOf_68 : decode cX12_markOf 68 = .ok (.iload_n 2, 1) := by decide +kernel
theorem dX12_markOf_69 : decode cX12_markOf 69 = .ok (.ireturn, 1) := by decide +kernel
def J_X12_markOf_68 (v2 : Int32) (D : aD) : Option (Int32 × aD) :=
  some (v2, D)
def B_X12_markOf_4 (v1 : Int32) (v2 : Int32) (v3 : Int32) (D : aD) : Option ((Int32 × Int32 × aD) ⊕ ((Int32 × aD))) :=
  aGd (aIn 2 32) (if gI D 91 (2 : Int32).toNatClampNeg ≤ v3 then (some (.inr (v2, D))) else (aGd (aIn v3 6) (if gI D 108 v3.toNatClampNeg ≠ 0 then (aGd (aIn v3 12) (aGd (aIn v3 6) (aGd (aIn ((6 * v1) + v3) 30) (aGd (aIn v3 6) (aGd (aNz (gI D 108 v3.toNatClampNeg)) (aLet (v2 + ((gI D 97 v3.toNatClampNeg) * (((gI D 111 v3.toNatClampNeg) * (gI D 109 ((6 * v1) + v3).toNatClampNeg)) / (gI D 108 v3.toNatClampNeg)))) (fun v2_8 => aLet (v3 + 1) (fun v3_9 => some (.inl (v2_8, v3_9, D)))))))))) else (aLet (v2 + 0) (fun v2_10 => aLet (v3 + 1) (fun v3_11 => some (.inl (v2_10, v3_11, D))))))))
def J_X12_markOf_4 (v1 : Int32) (v2 : Int32) (v3 : Int32) (D : aD) : Option (Int32 × aD) :=
  (aLp (fun s => B_X12_markOf_4 v1 s.1 s.2.1 s.2.2) (v2, v3, D)).bind (fun r => J_X12_markOf_68 (r.1) r.2)
def f_X12_markOf (v1 : Int32) (D : aD) : Option (Int32 × aD) :=
  J_X12_markOf_4 v1 0 0 D
set_option maxRecDepth 100000 in
set_option maxHeartbeats 800000 in
theorem c_X12_markOf {G : aG} (hG : gOK G) {shp : List aSh} (hS : aShp shp) {fr : Option Nat} {v1 : Int32} {D : aD} {K : Int32 → aD → Prop} (h : Ok2 (f_X12_markOf v1 D) K) : AC G (aRm 1 0 0) M_X12_markOf [.ref 88, .int v1] fr shp D (aQi shp K) := by
  replace h := Ok2.ok h
  unfold f_X12_markOf at h
  refine AC.of (al := [some (.ref 88), some (.int v1), none, none]) (r := 2) (by decide) (Nat.le_of_ble_eq_true rfl) rfl ?_
  have hJ_68 : ∀ (v2 : Int32) (D : aD), Ok (J_X12_markOf_68 v2 D) (fun r => K r.1 r.2) → AW G (aRm 1 0 0) M_X12_markOf fr 0 0 68 [none, none, some (.int v2), none] [] shp D (aQi shp K) := by
    intro v2 D h
    unfold J_X12_markOf_68 at h
    refine aw_iload_n (n := 69) (i := 2) dX12_markOf_68 rfl rfl rfl ?_
    exact aw_iret rfl (by decide) (by decide) dX12_markOf_69 ⟨_, rfl, rfl, (Ok.dn h :)⟩
  have hJ_4 : ∀ (v1 : Int32) (v2 : Int32) (v3 : Int32) (D : aD), Ok (J_X12_markOf_4 v1 v2 v3 D) (fun r => K r.1 r.2) → AW G (aRm 1 0 0) M_X12_markOf fr 0 0 4 [some (.ref 88), some (.int v1), some (.int v2), some (.int v3)] [] shp D (aQi shp K) := by
    intro v1 v2 v3 D h
    unfold J_X12_markOf_4 at h
    refine Ok.lp (P := fun s => AW G (aRm 1 0 0) M_X12_markOf fr 0 0 4 [some (.ref 88), some (.int v1), some (.int (s.1)), some (.int (s.2.1))] [] shp s.2.2 (aQi shp K)) (fun s Kb4 hL4 hR4 h => ?_) (v2, v3, D) (Ok.bind h)
    obtain ⟨v2, v3, D⟩ := s
    replace h : Ok (B_X12_markOf_4 v1 v2 v3 D) Kb4 := h
    unfold B_X12_markOf_4 at h
    refine aw_iload_n (n := 5) (i := 3) dX12_markOf_4 rfl rfl rfl ?_
    refine aw_aload_n (n := 6) (i := 0) dX12_markOf_5 rfl rfl rfl ?_
    refine aw_getR (n := 9) (j := 3) (r := 91) hG.1 fl_RX12_27 (sF_88 hS) rfl dX12_markOf_6 rfl ?_
    refine aw_iconst (n := 10) (v := 2) dX12_markOf_9 rfl (by decide) ?_
    obtain ⟨g_1, h⟩ := Ok.gd h
    refine aw_iaload (n := 11) hG.1 (sF_91 hS) (aIn_in g_1) dX12_markOf_10 rfl ?_
    refine aw_icmp_ge (n := 14) (tgt := 68) dX12_markOf_11 rfl (by decide) (fun c => ?_) (fun c => ?_)
    · replace h := Ok.ift h c
      exact aw_le' (hJ_68 v2 D (hR4 (v2, D) (Ok.dn h :))) ⟨rfl, trivial⟩
    · replace h := Ok.iff h c
      refine aw_iload_n (n := 15) (i := 2) dX12_markOf_14 rfl rfl rfl ?_
      refine aw_aload_n (n := 16) (i := 0) dX12_markOf_15 rfl rfl rfl ?_
      refine aw_getR (n := 19) (j := 34) (r := 108) hG.1 fl_RX12_85 (sF_88 hS) rfl dX12_markOf_16 rfl ?_
      refine aw_iload_n (n := 20) (i := 3) dX12_markOf_19 rfl rfl rfl ?_
      obtain ⟨g_2, h⟩ := Ok.gd h
      refine aw_iaload (n := 21) hG.1 (sF_108 hS) (aIn_in g_2) dX12_markOf_20 rfl ?_
      refine aw_if_ne (n := 24) (tgt := 28) dX12_markOf_21 rfl (by decide) (fun c => ?_) (fun c => ?_)
      · replace h := Ok.ift h c
        refine aw_aload_n (n := 29) (i := 0) dX12_markOf_28 rfl rfl rfl ?_
        refine aw_getR (n := 32) (j := 9) (r := 97) hG.1 fl_RX12_45 (sF_88 hS) rfl dX12_markOf_29 rfl ?_
        refine aw_iload_n (n := 33) (i := 3) dX12_markOf_32 rfl rfl rfl ?_
        obtain ⟨g_3, h⟩ := Ok.gd h
        refine aw_iaload (n := 34) hG.1 (sF_97 hS) (aIn_in g_3) dX12_markOf_33 rfl ?_
        refine aw_aload_n (n := 35) (i := 0) dX12_markOf_34 rfl rfl rfl ?_
        refine aw_getR (n := 38) (j := 37) (r := 111) hG.1 fl_RX12_94 (sF_88 hS) rfl dX12_markOf_35 rfl ?_
        refine aw_iload_n (n := 39) (i := 3) dX12_markOf_38 rfl rfl rfl ?_
        obtain ⟨g_4, h⟩ := Ok.gd h
        refine aw_iaload (n := 40) hG.1 (sF_111 hS) (aIn_in g_4) dX12_markOf_39 rfl ?_
        refine aw_aload_n (n := 41) (i := 0) dX12_markOf_40 rfl rfl rfl ?_
        refine aw_getR (n := 44) (j := 35) (r := 109) hG.1 fl_RX12_88 (sF_88 hS) rfl dX12_markOf_41 rfl ?_
        refine aw_bipush (n := 46) (v := 6) dX12_markOf_44 rfl (by decide) ?_
        refine aw_iload_n (n := 47) (i := 1) dX12_markOf_46 rfl rfl rfl ?_
        refine aw_imul (n := 48) dX12_markOf_47 rfl ?_
        refine aw_iload_n (n := 49) (i := 3) dX12_markOf_48 rfl rfl rfl ?_
        refine aw_iadd (n := 50) dX12_markOf_49 rfl ?_
        obtain ⟨g_5, h⟩ := Ok.gd h
        refine aw_iaload (n := 51) hG.1 (sF_109 hS) (aIn_in g_5) dX12_markOf_50 rfl ?_
        refine aw_imul (n := 52) dX12_markOf_51 rfl ?_
        refine aw_aload_n (n := 53) (i := 0) dX12_markOf_52 rfl rfl rfl ?_
        refine aw_getR (n := 56) (j := 34) (r := 108) hG.1 fl_RX12_85 (sF_88 hS) rfl dX12_markOf_53 rfl ?_
        refine aw_iload_n (n := 57) (i := 3) dX12_markOf_56 rfl rfl rfl ?_
        obtain ⟨g_6, h⟩ := Ok.gd h
        refine aw_iaload (n := 58) hG.1 (sF_108 hS) (aIn_in g_6) dX12_markOf_57 rfl ?_
        obtain ⟨g_7, h⟩ := Ok.gd h
        refine aw_idiv (n := 59) dX12_markOf_58 rfl (aNz_ne g_7) ?_
        refine aw_imul (n := 60) dX12_markOf_59 rfl ?_
        refine aw_iadd (n := 61) dX12_markOf_60 rfl ?_
        obtain ⟨v2_8, e_v2_8, h⟩ := Ok.let_ h
        refine aw_istore_n (n := 62) (i := 2) (al' := [some (.ref 88), some (.int v1), some (.int v2_8), some (.int v3)]) dX12_markOf_61 rfl rfl e_v2_8 (by decide) rfl ?_
        obtain ⟨v3_9, e_v3_9, h⟩ := Ok.let_ h
        refine aw_iinc (n := 65) (al' := [some (.ref 88), some (.int v1), some (.int v2_8), some (.int v3_9)]) dX12_markOf_62 rfl rfl e_v3_9 (by decide) rfl ?_
        refine aw_goto (tgt := 4) dX12_markOf_65 (by decide) ?_
        exact aw_le' (hL4 (v2_8, v3_9, D) (Ok.dn h :)) ⟨rfl, ⟨rfl, ⟨rfl, ⟨rfl, trivial⟩⟩⟩⟩
      · replace h := Ok.iffn h c
        refine aw_iconst (n := 25) (v := 0) dX12_markOf_24 rfl (by decide) ?_
        refine aw_goto (tgt := 60) dX12_markOf_25 (by decide) ?_
        refine aw_iadd (n := 61) dX12_markOf_60 rfl ?_
        obtain ⟨v2_10, e_v2_10, h⟩ := Ok.let_ h
        refine aw_istore_n (n := 62) (i := 2) (al' := [some (.ref 88), some (.int v1), some (.int v2_10), some (.int v3)]) dX12_markOf_61 rfl rfl e_v2_10 (by decide) rfl ?_
        obtain ⟨v3_11, e_v3_11, h⟩ := Ok.let_ h
        refine aw_iinc (n := 65) (al' := [some (.ref 88), some (.int v1), some (.int v2_10), some (.int v3_11)]) dX12_markOf_62 rfl rfl e_v3_11 (by decide) rfl ?_
        refine aw_goto (tgt := 4) dX12_markOf_65 (by decide) ?_
        exact aw_le' (hL4 (v2_10, v3_11, D) (Ok.dn h :)) ⟨rfl, ⟨rfl, ⟨rfl, ⟨rfl, trivial⟩⟩⟩⟩
  refine aw_iconst (n := 1) (v := 0) dX12_markOf_0 rfl (by decide) ?_
  refine aw_istore_n (n := 2) (i := 2) (al' := [some (.ref 88), some (.int v1), some (.int 0), none]) dX12_markOf_1 rfl rfl rfl (by decide) rfl ?_
  refine aw_iconst (n := 3) (v := 0) dX12_markOf_2 rfl (by decide) ?_
  refine aw_istore_n (n := 4) (i := 3) (al' := [some (.ref 88), some (.int v1), some (.int 0), some (.int 0)]) dX12_markOf_3 rfl rfl rfl (by decide) rfl ?_
  exact aw_le' (hJ_4 v1 0 0 D h) ⟨rfl, ⟨rfl, ⟨rfl, ⟨rfl, trivial⟩⟩⟩⟩
theorem dX12_mark_0 : decode cX12_mark 0 = .ok (.aload_n 0, 1) := by decide +kernel
theorem dX12_mark_1 : decode cX12_mark 1 = .ok (.iconst 0, 1) := by decide +kernel
theorem dX12_mark_2 : decode cX12_mark 2 = .ok (.putfield 157, 3) := by decide +kernel
theorem dX12_mark_5 : decode cX12_mark 5 = .ok (.aload_n 0, 1) := by decide +kernel
theorem dX12_mark_6 : decode cX12_mark 6 = .ok (.iload_n 1, 1) := by decide +kernel
theorem dX12_mark_7 : decode cX12_mark 7 = .ok (.invokevirtual 343, 3) := by decide +kernel
theorem dX12_mark_10 : decode cX12_mark 10 = .ok (.ifCond .eq 14, 3) := by decide +kernel
theorem dX12_mark_13 : decode cX12_mark 13 = .ok (.aload_n 0, 1) := by decide +kernel
theorem dX12_mark_14 : decode cX12_mark 14 = .ok (.iload_n 2, 1) := by decide +kernel
theorem dX12_mark_15 : decode cX12_mark 15 = .ok (.iload_n 3, 1) := by decide +kernel
theorem dX12_mark_16 : decode cX12_mark 16 = .ok (.iload 4, 2) := by decide +kernel
theorem dX12_mark_18 : decode cX12_mark 18 = .ok (.invokevirtual 329, 3) := by decide +kernel
theorem dX12_mark_21 : decode cX12_mark 21 = .ok (.ifCond .ne 9, 3) := by decide +kernel
theorem dX12_mark_24 : decode cX12_mark 24 = .ok (.aload_n 0, 1) := by decide +kernel
theorem dX12_mark_25 : decode cX12_mark 25 = .ok (.iconst 1, 1) := by decide +kernel
theorem dX12_mark_26 : decode cX12_mark 26 = .ok (.invokevirtual 290, 3) := by decide +kernel
theorem dX12_mark_29 : decode cX12_mark 29 = .ok (.ireturn, 1) := by decide +kernel
theorem dX12_mark_30 : decode cX12_mark 30 = .ok (.aload_n 0, 1) := by decide +kernel
theorem dX12_mark_31 : decode cX12_mark 31 = .ok (.iload_n 2, 1) := by decide +kernel
theorem dX12_mark_32 : decode cX12_mark 32 = .ok (.iload_n 3, 1) := by decide +kernel
theorem dX12_mark_33 : decode cX12_mark 33 = .ok (.iload 4, 2) := by decide +kernel
theorem dX12_mark_35 : decode cX12_mark 35 = .ok (.invokevirtual 339, 3) := by decide +kernel
theorem dX12_mark_38 : decode cX12_mark 38 = .ok (.aload_n 0, 1) := by decide +kernel
theorem dX12_mark_39 : decode cX12_mark 39 = .ok (.iload_n 1, 1) := by decide +kernel
theorem dX12_mark_40 : decode cX12_mark 40 = .ok (.invokevirtual 346, 3) := by decide +kernel
theorem dX12_mark_43 : decode cX12_mark 43 = .ok (.ireturn, 1) := by decide +kernel
def f_X12_mark (v1 : Int32) (v2 : Int32) (v3 : Int32) (v4 : Int32) (D : aD) : Option (Int32 × aD) :=
  aLet (pI D 88 2 0) (fun D_1 => aBi (f_X12_isGarden v1 D_1) (fun y_2 D_3 => if y_2 = 0 then (aBi (f_X12_fail 1 D_3) (fun y_4 D_5 => some (y_4, D_5))) else (aBi (f_X12_isPlace v2 v3 v4 D_3) (fun y_6 D_7 => if y_6 ≠ 0 then ((f_X12_tellPlace v2 v3 v4 D_7).bind (fun D_8 => aBi (f_X12_markOf v1 D_8) (fun y_9 D_10 => some (y_9, D_10)))) else (aBi (f_X12_fail 1 D_7) (fun y_11 D_12 => some (y_11, D_12)))))))
set_option maxRecDepth 100000 in
set_option maxHeartbeats 800000 in
theorem c_X12_mark {G : aG} (hG : gOK G) {shp : List aSh} (hS : aShp shp) {fr : Option Nat} {v1 : Int32} {v2 : Int32} {v3 : Int32} {v4 : Int32} {D : aD} {K : Int32 → aD → Prop} (h : Ok2 (f_X12_mark v1 v2 v3 v4 D) K) : AC G (aRm 4 0 0) M_X12_mark [.ref 88, .int v1, .int v2, .int v3, .int v4] fr shp D (aQi shp K) := by
  replace h := Ok2.ok h
  unfold f_X12_mark at h
  refine AC.of (al := [some (.ref 88), some (.int v1), some (.int v2), some (.int v3), some (.int v4)]) (r := 0) (by decide) (Nat.le_of_ble_eq_true rfl) rfl ?_
  refine aw_aload_n (n := 1) (i := 0) dX12_mark_0 rfl rfl rfl ?_
  refine aw_iconst (n := 2) (v := 0) dX12_mark_1 rfl (by decide) ?_
  obtain ⟨D_1, e_D_1, h⟩ := Ok.let_ h
  refine aw_putI (n := 5) (j := 2) hG.1 fl_RX12_157 (sF_88 hS) rfl e_D_1 dX12_mark_2 rfl ?_
  refine aw_aload_n (n := 6) (i := 0) dX12_mark_5 rfl rfl rfl ?_
  refine aw_iload_n (n := 7) (i := 1) dX12_mark_6 rfl rfl rfl ?_
  refine aw_cVi (M := M_X12_mark) (n := 10) (As := [.int v1]) (rest := []) hG.1 lk_RX12_343 rfl rfl (sF_88 hS) (c_X12_isGarden hG hS (h := Ok.bi h)) (by decide) (Nat.le_of_ble_eq_true rfl) (by decide) (by decide) dX12_mark_7 rfl (fun y_2 D_3 h => ?_)
  refine aw_if_eq (n := 13) (tgt := 24) dX12_mark_10 rfl (by decide) (fun c => ?_) (fun c => ?_)
  · replace h := Ok.ift h c
    refine aw_aload_n (n := 25) (i := 0) dX12_mark_24 rfl rfl rfl ?_
    refine aw_iconst (n := 26) (v := 1) dX12_mark_25 rfl (by decide) ?_
    refine aw_cVi (M := M_X12_mark) (n := 29) (As := [.int 1]) (rest := []) hG.1 lk_RX12_290 rfl rfl (sF_88 hS) (c_X12_fail hG hS (h := Ok.bi h)) (by decide) (Nat.le_of_ble_eq_true rfl) (by decide) (by decide) dX12_mark_26 rfl (fun y_4 D_5 h => ?_)
    exact aw_iret rfl (by decide) (by decide) dX12_mark_29 ⟨_, rfl, rfl, (Ok.dn h :)⟩
  · replace h := Ok.iff h c
    refine aw_aload_n (n := 14) (i := 0) dX12_mark_13 rfl rfl rfl ?_
    refine aw_iload_n (n := 15) (i := 2) dX12_mark_14 rfl rfl rfl ?_
    refine aw_iload_n (n := 16) (i := 3) dX12_mark_15 rfl rfl rfl ?_
    refine aw_iload (n := 18) (i := 4) dX12_mark_16 rfl rfl ?_
    refine aw_cVi (M := M_X12_mark) (n := 21) (As := [.int v2, .int v3, .int v4]) (rest := []) hG.1 lk_RX12_329 rfl rfl (sF_88 hS) (c_X12_isPlace hG hS (h := Ok.bi h)) (by decide) (Nat.le_of_ble_eq_true rfl) (by decide) (by decide) dX12_mark_18 rfl (fun y_6 D_7 h => ?_)
    refine aw_if_ne (n := 24) (tgt := 30) dX12_mark_21 rfl (by decide) (fun c => ?_) (fun c => ?_)
    · replace h := Ok.ift h c
      refine aw_aload_n (n := 31) (i := 0) dX12_mark_30 rfl rfl rfl ?_
      refine aw_iload_n (n := 32) (i := 2) dX12_mark_31 rfl rfl rfl ?_
      refine aw_iload_n (n := 33) (i := 3) dX12_mark_32 rfl rfl rfl ?_
      refine aw_iload (n := 35) (i := 4) dX12_mark_33 rfl rfl ?_
      refine aw_cVv (M := M_X12_mark) (n := 38) (As := [.int v2, .int v3, .int v4]) (rest := []) hG.1 lk_RX12_339 rfl rfl (sF_88 hS) (c_X12_tellPlace hG hS (h := Ok.bind h)) (by decide) (Nat.le_of_ble_eq_true rfl) (by decide) (by decide) dX12_mark_35 rfl (fun D_8 h => ?_)
      refine aw_aload_n (n := 39) (i := 0) dX12_mark_38 rfl rfl rfl ?_
      refine aw_iload_n (n := 40) (i := 1) dX12_mark_39 rfl rfl rfl ?_
      refine aw_cVi (M := M_X12_mark) (n := 43) (As := [.int v1]) (rest := []) hG.1 lk_RX12_346 rfl rfl (sF_88 hS) (c_X12_markOf hG hS (h := Ok.bi h)) (by decide) (Nat.le_of_ble_eq_true rfl) (by decide) (by decide) dX12_mark_40 rfl (fun y_9 D_10 h => ?_)
      exact aw_iret rfl (by decide) (by decide) dX12_mark_43 ⟨_, rfl, rfl, (Ok.dn h :)⟩
    · replace h := Ok.iffn h c
      refine aw_aload_n (n := 25) (i := 0) dX12_mark_24 rfl rfl rfl ?_
      refine aw_iconst (n := 26) (v := 1) dX12_mark_25 rfl (by decide) ?_
      refine aw_cVi (M := M_X12_mark) (n := 29) (As := [.int 1]) (rest := []) hG.1 lk_RX12_290 rfl rfl (sF_88 hS) (c_X12_fail hG hS (h := Ok.bi h)) (by decide) (Nat.le_of_ble_eq_true rfl) (by decide) (by decide) dX12_mark_26 rfl (fun y_11 D_12 h => ?_)
      exact aw_iret rfl (by decide) (by decide) dX12_mark_29 ⟨_, rfl, rfl, (Ok.dn h :)⟩
theorem dX12_tellSums_0 : decode cX12_tellSums 0 = .ok (.iconst 0, 1) := by decide +kernel
theorem dX12_tellSums_1 : decode cX12_tellSums 1 = .ok (.istore_n 3, 1) := by decide +kernel
theorem dX12_tellSums_2 : decode cX12_tellSums 2 = .ok (.iload_n 3, 1) := by decide +kernel
theorem dX12_tellSums_3 : decode cX12_tellSums 3 = .ok (.iconst 5, 1) := by decide +kernel
theorem dX12_tellSums_4 : decode cX12_tellSums 4 = .ok (.if_icmp .ge 16, 3) := by decide +kernel
theorem dX12_tellSums_7 : decode cX12_tellSums 7 = .ok (.aload_n 0, 1) := by decide +kernel
theorem dX12_tellSums_8 : decode cX12_tellSums 8 = .ok (.getfield 97, 3) := by decide +kernel
theorem dX12_tellSums_11 : decode cX12_tellSums 11 = .ok (.iload_n 3, 1) := by decide +kernel
theorem dX12_tellSums_12 : decode cX12_tellSums 12 = .ok (.iconst 0, 1) := by decide +kernel
theorem dX12_tellSums_13 : decode cX12_tellSums 13 = .ok (.iastore, 1) := by decide +kernel
theorem dX12_tellSums_14 : decode cX12_tellSums 14 = .ok (.iinc 3 1, 3) := by decide +kernel
theorem dX12_tellSums_17 : decode cX12_tellSums 17 = .ok (.goto (-15), 3) := by decide +kernel
theorem dX12_tellSums_20 : decode cX12_tellSums 20 = .ok (.iconst 0, 1) := by decide +kernel
theorem dX12_tellSums_21 : decode cX12_tellSums 21 = .ok (.istore_n 3, 1) := by decide +kernel
theorem dX12_tellSums_22 : decode cX12_tellSums 22 = .ok (.iload_n 3, 1) := by decide +kernel
theorem dX12_tellSums_23 : decode cX12_tellSums 23 = .ok (.aload_n 0, 1) := by decide +kernel
theorem dX12_tellSums_24 : decode cX12_tellSums 24 = .ok (.getfield 27, 3) := by decide +kernel
theorem dX12_tellSums_27 : decode cX12_tellSums 27 = .ok (.iconst 5, 1) := by decide +kernel
theorem dX12_tellSums_28 : decode cX12_tellSums 28 = .ok (.iaload, 1) := by decide +kernel
theorem dX12_tellSums_29 : decode cX12_tellSums 29 = .ok (.if_icmp .ge 67, 3) := by decide +kernel
theorem dX12_tellSums_32 : decode cX12_tellSums 32 = .ok (.aload_n 0, 1) := by decide +kernel
theorem dX12_tellSums_33 : decode cX12_tellSums 33 = .ok (.aload_n 0, 1) := by decide +kernel
theorem dX12_tellSums_34 : decode cX12_tellSums 34 = .ok (.getfield 60, 3) := by decide +kernel
theorem dX12_tellSums_37 : decode cX12_tellSums 37 = .ok (.aload_n 1, 1) := by decide +kernel
theorem dX12_tellSums_38 : decode cX12_tellSums 38 = .ok (.iload_n 3, 1) := by decide +kernel
theorem dX12_tellSums_39 : decode cX12_tellSums 39 = .ok (.iaload, 1) := by decide +kernel
theorem dX12_tellSums_40 : decode cX12_tellSums 40 = .ok (.iaload, 1) := by decide +kernel
theorem dX12_tellSums_41 : decode cX12_tellSums 41 = .ok (.aload_n 0, 1) := by decide +kernel
theorem dX12_tellSums_42 : decode cX12_tellSums 42 = .ok (.getfield 82, 3) := by decide +kernel
theorem dX12_tellSums_45 : decode cX12_tellSums 45 = .ok (.iload_n 3, 1) := by decide +kernel
theorem dX12_tellSums_46 : decode cX12_tellSums 46 = .ok (.iadd, 1) := by decide +kernel
theorem dX12_tellSums_47 : decode cX12_tellSums 47 = .ok (.bipush 24, 2) := by decide +kernel
theorem dX12_tellSums_49 : decode cX12_tellSums 49 = .ok (.irem, 1) := by decide +kernel
theorem dX12_tellSums_50 : decode cX12_tellSums 50 = .ok (.iload_n 2, 1) := by decide +kernel
theorem dX12_tellSums_51 : decode cX12_tellSums 51 = .ok (.invokevirtual 339, 3) := by decide +kernel
theorem dX12_tellSums_54 : decode cX12_tellSums 54 = .ok (.iconst 0, 1) := by decide +kernel
theorem dX12_tellSums_55 : decode cX12_tellSums 55 = .ok (.istore 4, 2) := by decide +kernel
theorem dX12_tellSums_57 : decode cX12_tellSums 57 = .ok (.iload 4, 2) := by decide +kernel
theorem dX12_tellSums_59 : decode cX12_tellSums 59 = .ok (.aload_n 0, 1) := by decide +kernel
theorem dX12_tellSums_60 : decode cX12_tellSums 60 = .ok (.getfield 27, 3) := by decide +kernel
theorem dX12_tellSums_63 : decode cX12_tellSums 63 = .ok (.iconst 3, 1) := by decide +kernel
theorem dX12_tellSums_64 : decode cX12_tellSums 64 = .ok (.iaload, 1) := by decide +kernel
theorem dX12_tellSums_65 : decode cX12_tellSums 65 = .ok (.if_icmp .ge 25, 3) := by decide +kernel
theorem dX12_tellSums_68 : decode cX12_tellSums 68 = .ok (.aload_n 0, 1) := by decide +kernel
theorem dX12_tellSums_69 : decode cX12_tellSums 69 = .ok (.getfield 97, 3) := by decide +kernel
theorem dX12_tellSums_72 : decode cX12_tellSums 72 = .ok (.iload 4, 2) := by decide +kernel
theorem dX12_tellSums_74 : decode cX12_tellSums 74 = .ok (.dup2, 1) := by decide +kernel
theorem dX12_tellSums_75 : decode cX12_tellSums 75 = .ok (.iaload, 1) := by decide +kernel
theorem dX12_tellSums_76 : decode cX12_tellSums 76 = .ok (.aload_n 0, 1) := by decide +kernel
theorem dX12_tellSums_77 : decode cX12_tellSums 77 = .ok (.iload 4, 2) := by decide +kernel
theorem dX12_tellSums_79 : decode cX12_tellSums 79 = .ok (.invokevirtual 346, 3) := by decide +kernel
theorem dX12_tellSums_82 : decode cX12_tellSums 82 = .ok (.iadd, 1) := by decide +kernel
theorem dX12_tellSums_83 : decode cX12_tellSums 83 = .ok (.iastore, 1) := by decide +kernel
theorem dX12_tellSums_84 : decode cX12_tellSums 84 = .ok (.iinc 4 1, 3) := by decide +kernel
theorem dX12_tellSums_87 : decode cX12_tellSums 87 = .ok (.goto (-30), 3) := by decide +kernel
theorem dX12_tellSums_90 : decode cX12_tellSums 90 = .ok (.iinc 3 1, 3) := by decide +kernel
theorem dX12_tellSums_93 : decode cX12_tellSums 93 = .ok (.goto (-71), 3) := by decide +kernel
theorem dX12_tellSums_96 : decode cX12_tellSums 96 = .ok (.return_, 1) := by decide +kernel
def J_X12_tellSums_96 (a1 : Nat) (na1 : Nat) (D : aD) : Option (aD) :=
  some D
def J_X12_tellSums_90 (a1 : Nat) (na1 : Nat) (v2 : Int32) (v3 : Int32) (D : aD) : Option ((Int32 × aD) ⊕ ((aD))) :=
  aLet (v3 + 1) (fun v3_5 => some (.inl (v3_5, D)))
def B_X12_tellSums_57 (a1 : Nat) (na1 : Nat) (v2 : Int32) (v3 : Int32) (v4 : Int32) (D : aD) : Option ((Int32 × aD) ⊕ ((aD))) :=
  aGd (aIn 3 32) (if gI D 91 (3 : Int32).toNatClampNeg ≤ v4 then (some (.inr D)) else (aGd (aIn v4 5) (aBi (f_X12_markOf v4 D) (fun y_8 D_9 => aGd (aIn v4 5) (aLet (pI D_9 112 v4.toNatClampNeg ((gI D 112 v4.toNatClampNeg) + y_8)) (fun D_11 => aLet (v4 + 1) (fun v4_12 => some (.inl (v4_12, D_11)))))))))
def J_X12_tellSums_57 (a1 : Nat) (na1 : Nat) (v2 : Int32) (v3 : Int32) (v4 : Int32) (D : aD) : Option ((Int32 × aD) ⊕ ((aD))) :=
  (aLp (fun s => B_X12_tellSums_57 a1 na1 v2 v3 s.1 s.2) (v4, D)).bind (fun r => J_X12_tellSums_90 a1 na1 v2 v3 r)
def B_X12_tellSums_22 (a1 : Nat) (na1 : Nat) (v2 : Int32) (v3 : Int32) (D : aD) : Option ((Int32 × aD) ⊕ ((aD))) :=
  aGd (aIn 5 32) (if gI D 91 (5 : Int32).toNatClampNeg ≤ v3 then (some (.inr D)) else (aGd (aIn v3 na1) (aGd (aIn (gI D a1 v3.toNatClampNeg) 10) ((f_X12_tellPlace (gI D 102 (gI D a1 v3.toNatClampNeg).toNatClampNeg) (((gI D 88 31) + v3) - ((gI D 88 31) + v3) / 24 * 24) v2 D).bind (fun D_4 => J_X12_tellSums_57 a1 na1 v2 v3 0 D_4)))))
def J_X12_tellSums_22 (a1 : Nat) (na1 : Nat) (v2 : Int32) (v3 : Int32) (D : aD) : Option (aD) :=
  (aLp (fun s => B_X12_tellSums_22 a1 na1 v2 s.1 s.2) (v3, D)).bind (fun r => J_X12_tellSums_96 a1 na1 r)
def J_X12_tellSums_20 (a1 : Nat) (na1 : Nat) (v2 : Int32) (D : aD) : Option (aD) :=
  J_X12_tellSums_22 a1 na1 v2 0 D
def B_X12_tellSums_2 (a1 : Nat) (na1 : Nat) (v2 : Int32) (v3 : Int32) (D : aD) : Option ((Int32 × aD) ⊕ ((aD))) :=
  if 5 ≤ v3 then (some (.inr D)) else (aGd (aIn v3 5) (aLet (pI D 112 v3.toNatClampNeg 0) (fun D_14 => aLet (v3 + 1) (fun v3_15 => some (.inl (v3_15, D_14))))))
def J_X12_tellSums_2 (a1 : Nat) (na1 : Nat) (v2 : Int32) (v3 : Int32) (D : aD) : Option (aD) :=
  (aLp (fun s => B_X12_tellSums_2 a1 na1 v2 s.1 s.2) (v3, D)).bind (fun r => J_X12_tellSums_20 a1 na1 v2 r)
def f_X12_tellSums (a1 : Nat) (na1 : Nat) (v2 : Int32) (D : aD) : Option (aD) :=
  J_X12_tellSums_2 a1 na1 v2 0 D
set_option maxRecDepth 100000 in
set_option maxHeartbeats 800000 in
theorem c_X12_tellSums {G : aG} (hG : gOK G) {shp : List aSh} (hS : aShp shp) {fr : Option Nat} {a1 : Nat} {na1 : Nat} {v2 : Int32} {D : aD} {K : aD → Prop} (h : Ok (f_X12_tellSums a1 na1 v2 D) K) (ha1 : shp[a1]? = some (.inl (1, na1, []))) : AC G (aRm 4 0 0) M_X12_tellSums [.ref 88, .ref a1, .int v2] fr shp D (aQv shp K) := by
  unfold f_X12_tellSums at h
  refine AC.of (al := [some (.ref 88), some (.ref a1), some (.int v2), none, none]) (r := 2) (by decide) (Nat.le_of_ble_eq_true rfl) rfl ?_
  have hJ_96 : ∀ (D : aD), Ok (J_X12_tellSums_96 a1 na1 D) K → AW G (aRm 4 0 0) M_X12_tellSums fr 0 0 96 [none, none, none, none, none] [] shp D (aQv shp K) := by
    intro D h
    unfold J_X12_tellSums_96 at h
    exact aw_vret rfl (by decide) (by decide) dX12_tellSums_96 ⟨rfl, rfl, (Ok.dn h :)⟩
  have hJ_22 : ∀ (v2 : Int32) (v3 : Int32) (D : aD), Ok (J_X12_tellSums_22 a1 na1 v2 v3 D) K → AW G (aRm 4 0 0) M_X12_tellSums fr 0 0 22 [some (.ref 88), some (.ref a1), some (.int v2), some (.int v3), none] [] shp D (aQv shp K) := by
    intro v2 v3 D h
    unfold J_X12_tellSums_22 at h
    refine Ok.lp (P := fun s => AW G (aRm 4 0 0) M_X12_tellSums fr 0 0 22 [some (.ref 88), some (.ref a1), some (.int v2), some (.int (s.1)), none] [] shp s.2 (aQv shp K)) (fun s Kb22 hL22 hR22 h => ?_) (v3, D) (Ok.bind h)
    obtain ⟨v3, D⟩ := s
    replace h : Ok (B_X12_tellSums_22 a1 na1 v2 v3 D) Kb22 := h
    unfold B_X12_tellSums_22 at h
    have hJ_90 : ∀ (v3 : Int32) (D : aD), Ok (J_X12_tellSums_90 a1 na1 v2 v3 D) Kb22 → AW G (aRm 4 0 0) M_X12_tellSums fr 0 0 90 [some (.ref 88), some (.ref a1), some (.int v2), some (.int v3), none] [] shp D (aQv shp K) := by
      intro v3 D h
      unfold J_X12_tellSums_90 at h
      obtain ⟨v3_5, e_v3_5, h⟩ := Ok.let_ h
      refine aw_iinc (n := 93) (al' := [some (.ref 88), some (.ref a1), some (.int v2), some (.int v3_5), none]) dX12_tellSums_90 rfl rfl e_v3_5 (by decide) rfl ?_
      refine aw_goto (tgt := 22) dX12_tellSums_93 (by decide) ?_
      exact aw_le' (hL22 (v3_5, D) (Ok.dn h :)) ⟨rfl, ⟨rfl, ⟨rfl, ⟨rfl, trivial⟩⟩⟩⟩
    have hJ_57 : ∀ (v3 : Int32) (v4 : Int32) (D : aD), Ok (J_X12_tellSums_57 a1 na1 v2 v3 v4 D) Kb22 → AW G (aRm 4 0 0) M_X12_tellSums fr 0 0 57 [some (.ref 88), some (.ref a1), some (.int v2), some (.int v3), some (.int v4)] [] shp D (aQv shp K) := by
      intro v3 v4 D h
      unfold J_X12_tellSums_57 at h
      refine Ok.lp (P := fun s => AW G (aRm 4 0 0) M_X12_tellSums fr 0 0 57 [some (.ref 88), some (.ref a1), some (.int v2), some (.int v3), some (.int (s.1))] [] shp s.2 (aQv shp K)) (fun s Kb57 hL57 hR57 h => ?_) (v4, D) (Ok.bind h)
      obtain ⟨v4, D⟩ := s
      replace h : Ok (B_X12_tellSums_57 a1 na1 v2 v3 v4 D) Kb57 := h
      unfold B_X12_tellSums_57 at h
      refine aw_iload (n := 59) (i := 4) dX12_tellSums_57 rfl rfl ?_
      refine aw_aload_n (n := 60) (i := 0) dX12_tellSums_59 rfl rfl rfl ?_
      refine aw_getR (n := 63) (j := 3) (r := 91) hG.1 fl_RX12_27 (sF_88 hS) rfl dX12_tellSums_60 rfl ?_
      refine aw_iconst (n := 64) (v := 3) dX12_tellSums_63 rfl (by decide) ?_
      obtain ⟨g_6, h⟩ := Ok.gd h
      refine aw_iaload (n := 65) hG.1 (sF_91 hS) (aIn_in g_6) dX12_tellSums_64 rfl ?_
      refine aw_icmp_ge (n := 68) (tgt := 90) dX12_tellSums_65 rfl (by decide) (fun c => ?_) (fun c => ?_)
      · replace h := Ok.ift h c
        exact aw_le' (hJ_90 v3 D (hR57 D (Ok.dn h :))) ⟨rfl, ⟨rfl, ⟨rfl, ⟨rfl, trivial⟩⟩⟩⟩
      · replace h := Ok.iff h c
        refine aw_aload_n (n := 69) (i := 0) dX12_tellSums_68 rfl rfl rfl ?_
        refine aw_getR (n := 72) (j := 38) (r := 112) hG.1 fl_RX12_97 (sF_88 hS) rfl dX12_tellSums_69 rfl ?_
        refine aw_iload (n := 74) (i := 4) dX12_tellSums_72 rfl rfl ?_
        refine aw_dup2 (n := 75) dX12_tellSums_74 rfl rfl rfl ?_
        obtain ⟨g_7, h⟩ := Ok.gd h
        refine aw_iaload (n := 76) hG.1 (sF_112 hS) (aIn_in g_7) dX12_tellSums_75 rfl ?_
        refine aw_aload_n (n := 77) (i := 0) dX12_tellSums_76 rfl rfl rfl ?_
        refine aw_iload (n := 79) (i := 4) dX12_tellSums_77 rfl rfl ?_
        refine aw_cVi (M := M_X12_tellSums) (n := 82) (As := [.int v4]) (rest := [.int (gI D 112 v4.toNatClampNeg), .int v4, .ref 112]) hG.1 lk_RX12_346 rfl rfl (sF_88 hS) (c_X12_markOf hG hS (h := Ok.bi h)) (by decide) (Nat.le_of_ble_eq_true rfl) (by decide) (by decide) dX12_tellSums_79 rfl (fun y_8 D_9 h => ?_)
        refine aw_iadd (n := 83) dX12_tellSums_82 rfl ?_
        obtain ⟨g_10, h⟩ := Ok.gd h
        obtain ⟨D_11, e_D_11, h⟩ := Ok.let_ h
        refine aw_iastore (n := 84) hG.1 (sF_112 hS) (aIn_in g_10) e_D_11 dX12_tellSums_83 rfl ?_
        obtain ⟨v4_12, e_v4_12, h⟩ := Ok.let_ h
        refine aw_iinc (n := 87) (al' := [some (.ref 88), some (.ref a1), some (.int v2), some (.int v3), some (.int v4_12)]) dX12_tellSums_84 rfl rfl e_v4_12 (by decide) rfl ?_
        refine aw_goto (tgt := 57) dX12_tellSums_87 (by decide) ?_
        exact aw_le' (hL57 (v4_12, D_11) (Ok.dn h :)) ⟨rfl, ⟨rfl, ⟨rfl, ⟨rfl, ⟨rfl, trivial⟩⟩⟩⟩⟩
    refine aw_iload_n (n := 23) (i := 3) dX12_tellSums_22 rfl rfl rfl ?_
    refine aw_aload_n (n := 24) (i := 0) dX12_tellSums_23 rfl rfl rfl ?_
    refine aw_getR (n := 27) (j := 3) (r := 91) hG.1 fl_RX12_27 (sF_88 hS) rfl dX12_tellSums_24 rfl ?_
    refine aw_iconst (n := 28) (v := 5) dX12_tellSums_27 rfl (by decide) ?_
    obtain ⟨g_1, h⟩ := Ok.gd h
    refine aw_iaload (n := 29) hG.1 (sF_91 hS) (aIn_in g_1) dX12_tellSums_28 rfl ?_
    refine aw_icmp_ge (n := 32) (tgt := 96) dX12_tellSums_29 rfl (by decide) (fun c => ?_) (fun c => ?_)
    · replace h := Ok.ift h c
      exact aw_le' (hJ_96 D (hR22 D (Ok.dn h :))) trivial
    · replace h := Ok.iff h c
      refine aw_aload_n (n := 33) (i := 0) dX12_tellSums_32 rfl rfl rfl ?_
      refine aw_aload_n (n := 34) (i := 0) dX12_tellSums_33 rfl rfl rfl ?_
      refine aw_getR (n := 37) (j := 14) (r := 102) hG.1 fl_RX12_60 (sF_88 hS) rfl dX12_tellSums_34 rfl ?_
      refine aw_aload_n (n := 38) (i := 1) dX12_tellSums_37 rfl rfl rfl ?_
      refine aw_iload_n (n := 39) (i := 3) dX12_tellSums_38 rfl rfl rfl ?_
      obtain ⟨g_2, h⟩ := Ok.gd h
      refine aw_iaload (n := 40) hG.1 ha1 (aIn_in g_2) dX12_tellSums_39 rfl ?_
      obtain ⟨g_3, h⟩ := Ok.gd h
      refine aw_iaload (n := 41) hG.1 (sF_102 hS) (aIn_in g_3) dX12_tellSums_40 rfl ?_
      refine aw_aload_n (n := 42) (i := 0) dX12_tellSums_41 rfl rfl rfl ?_
      refine aw_getI (n := 45) (j := 31) hG.1 fl_RX12_82 (sF_88 hS) rfl dX12_tellSums_42 rfl ?_
      refine aw_iload_n (n := 46) (i := 3) dX12_tellSums_45 rfl rfl rfl ?_
      refine aw_iadd (n := 47) dX12_tellSums_46 rfl ?_
      refine aw_bipush (n := 49) (v := 24) dX12_tellSums_47 rfl (by decide) ?_
      refine aw_irem (n := 50) dX12_tellSums_49 rfl (by decide) ?_
      refine aw_iload_n (n := 51) (i := 2) dX12_tellSums_50 rfl rfl rfl ?_
      refine aw_cVv (M := M_X12_tellSums) (n := 54) (As := [.int (gI D 102 (gI D a1 v3.toNatClampNeg).toNatClampNeg), .int (((gI D 88 31) + v3) - ((gI D 88 31) + v3) / 24 * 24), .int v2]) (rest := []) hG.1 lk_RX12_339 rfl rfl (sF_88 hS) (c_X12_tellPlace hG hS (h := Ok.bind h)) (by decide) (Nat.le_of_ble_eq_true rfl) (by decide) (by decide) dX12_tellSums_51 rfl (fun D_4 h => ?_)
      refine aw_iconst (n := 55) (v := 0) dX12_tellSums_54 rfl (by decide) ?_
      refine aw_istore (n := 57) (i := 4) (al' := [some (.ref 88), some (.ref a1), some (.int v2), some (.int v3), some (.int 0)]) dX12_tellSums_55 rfl rfl (by decide) rfl ?_
      exact aw_le' (hJ_57 v3 0 D_4 h) ⟨rfl, ⟨rfl, ⟨rfl, ⟨rfl, ⟨rfl, trivial⟩⟩⟩⟩⟩
  have hJ_20 : ∀ (v2 : Int32) (D : aD), Ok (J_X12_tellSums_20 a1 na1 v2 D) K → AW G (aRm 4 0 0) M_X12_tellSums fr 0 0 20 [some (.ref 88), some (.ref a1), some (.int v2), none, none] [] shp D (aQv shp K) := by
    intro v2 D h
    unfold J_X12_tellSums_20 at h
    refine aw_iconst (n := 21) (v := 0) dX12_tellSums_20 rfl (by decide) ?_
    refine aw_istore_n (n := 22) (i := 3) (al' := [some (.ref 88), some (.ref a1), some (.int v2), some (.int 0), none]) dX12_tellSums_21 rfl rfl rfl (by decide) rfl ?_
    exact aw_le' (hJ_22 v2 0 D h) ⟨rfl, ⟨rfl, ⟨rfl, ⟨rfl, trivial⟩⟩⟩⟩
  have hJ_2 : ∀ (v2 : Int32) (v3 : Int32) (D : aD), Ok (J_X12_tellSums_2 a1 na1 v2 v3 D) K → AW G (aRm 4 0 0) M_X12_tellSums fr 0 0 2 [some (.ref 88), some (.ref a1), some (.int v2), some (.int v3), none] [] shp D (aQv shp K) := by
    intro v2 v3 D h
    unfold J_X12_tellSums_2 at h
    refine Ok.lp (P := fun s => AW G (aRm 4 0 0) M_X12_tellSums fr 0 0 2 [some (.ref 88), some (.ref a1), some (.int v2), some (.int (s.1)), none] [] shp s.2 (aQv shp K)) (fun s Kb2 hL2 hR2 h => ?_) (v3, D) (Ok.bind h)
    obtain ⟨v3, D⟩ := s
    replace h : Ok (B_X12_tellSums_2 a1 na1 v2 v3 D) Kb2 := h
    unfold B_X12_tellSums_2 at h
    refine aw_iload_n (n := 3) (i := 3) dX12_tellSums_2 rfl rfl rfl ?_
    refine aw_iconst (n := 4) (v := 5) dX12_tellSums_3 rfl (by decide) ?_
    refine aw_icmp_ge (n := 7) (tgt := 20) dX12_tellSums_4 rfl (by decide) (fun c => ?_) (fun c => ?_)
    · replace h := Ok.ift h c
      exact aw_le' (hJ_20 v2 D (hR2 D (Ok.dn h :))) ⟨rfl, ⟨rfl, ⟨rfl, trivial⟩⟩⟩
    · replace h := Ok.iff h c
      refine aw_aload_n (n := 8) (i := 0) dX12_tellSums_7 rfl rfl rfl ?_
      refine aw_getR (n := 11) (j := 38) (r := 112) hG.1 fl_RX12_97 (sF_88 hS) rfl dX12_tellSums_8 rfl ?_
      refine aw_iload_n (n := 12) (i := 3) dX12_tellSums_11 rfl rfl rfl ?_
      refine aw_iconst (n := 13) (v := 0) dX12_tellSums_12 rfl (by decide) ?_
      obtain ⟨g_13, h⟩ := Ok.gd h
      obtain ⟨D_14, e_D_14, h⟩ := Ok.let_ h
      refine aw_iastore (n := 14) hG.1 (sF_112 hS) (aIn_in g_13) e_D_14 dX12_tellSums_13 rfl ?_
      obtain ⟨v3_15, e_v3_15, h⟩ := Ok.let_ h
      refine aw_iinc (n := 17) (al' := [some (.ref 88), some (.ref a1), some (.int v2), some (.int v3_15), none]) dX12_tellSums_14 rfl rfl e_v3_15 (by decide) rfl ?_
      refine aw_goto (tgt := 2) dX12_tellSums_17 (by decide) ?_
      exact aw_le' (hL2 (v3_15, D_14) (Ok.dn h :)) ⟨rfl, ⟨rfl, ⟨rfl, ⟨rfl, trivial⟩⟩⟩⟩
  refine aw_iconst (n := 1) (v := 0) dX12_tellSums_0 rfl (by decide) ?_
  refine aw_istore_n (n := 2) (i := 3) (al' := [some (.ref 88), some (.ref a1), some (.int v2), some (.int 0), none]) dX12_tellSums_1 rfl rfl rfl (by decide) rfl ?_
  exact aw_le' (hJ_2 v2 0 D h) ⟨rfl, ⟨rfl, ⟨rfl, ⟨rfl, trivial⟩⟩⟩⟩
theorem dX12_sum_0 : decode cX12_sum 0 = .ok (.aload_n 0, 1) := by decide +kernel
theorem dX12_sum_1 : decode cX12_sum 1 = .ok (.iconst 0, 1) := by decide +kernel
theorem dX12_sum_2 : decode cX12_sum 2 = .ok (.putfield 157, 3) := by decide +kernel
theorem dX12_sum_5 : decode cX12_sum 5 = .ok (.aload_n 0, 1) := by decide +kernel
theorem dX12_sum_6 : decode cX12_sum 6 = .ok (.iload_n 1, 1) := by decide +kernel
theorem dX12_sum_7 : decode cX12_sum 7 = .ok (.invokevirtual 343, 3) := by decide +kernel
theorem dX12_sum_10 : decode cX12_sum 10 = .ok (.ifCond .eq 12, 3) := by decide +kernel
theorem dX12_sum_13 : decode cX12_sum 13 = .ok (.iload_n 2, 1) := by decide +kernel
theorem dX12_sum_14 : decode cX12_sum 14 = .ok (.iconst 0, 1) := by decide +kernel
theorem dX12_sum_15 : decode cX12_sum 15 = .ok (.iconst 4, 1) := by decide +kernel
theorem dX12_sum_16 : decode cX12_sum 16 = .ok (.invokestatic 160, 3) := by decide +kernel
theorem dX12_sum_19 : decode cX12_sum 19 = .ok (.ifCond .ne 9, 3) := by decide +kernel
theorem dX12_sum_22 : decode cX12_sum 22 = .ok (.aload_n 0, 1) := by decide +kernel
theorem dX12_sum_23 : decode cX12_sum 23 = .ok (.iconst 1, 1) := by decide +kernel
theorem dX12_sum_24 : decode cX12_sum 24 = .ok (.invokevirtual 290, 3) := by decide +kernel
theorem dX12_sum_27 : decode cX12_sum 27 = .ok (.ireturn, 1) := by decide +kernel
theorem dX12_sum_28 : decode cX12_sum 28 = .ok (.aload_n 0, 1) := by decide +kernel
theorem dX12_sum_29 : decode cX12_sum 29 = .ok (.aload_n 0, 1) := by decide +kernel
theorem dX12_sum_30 : decode cX12_sum 30 = .ok (.getfield 79, 3) := by decide +kernel
theorem dX12_sum_33 : decode cX12_sum 33 = .ok (.iload_n 2, 1) := by decide +kernel
theorem dX12_sum_34 : decode cX12_sum 34 = .ok (.invokevirtual 349, 3) := by decide +kernel
theorem dX12_sum_37 : decode cX12_sum 37 = .ok (.aload_n 0, 1) := by decide +kernel
theorem dX12_sum_38 : decode cX12_sum 38 = .ok (.getfield 97, 3) := by decide +kernel
theorem dX12_sum_41 : decode cX12_sum 41 = .ok (.iload_n 1, 1) := by decide +kernel
theorem dX12_sum_42 : decode cX12_sum 42 = .ok (.iaload, 1) := by decide +kernel
theorem dX12_sum_43 : decode cX12_sum 43 = .ok (.ireturn, 1) := by decide +kernel
def f_X12_sum (v1 : Int32) (v2 : Int32) (D : aD) : Option (Int32 × aD) :=
  aLet (pI D 88 2 0) (fun D_1 => aBi (f_X12_isGarden v1 D_1) (fun y_2 D_3 => if y_2 = 0 then (aBi (f_X12_fail 1 D_3) (fun y_4 D_5 => some (y_4, D_5))) else (aBi (f_X12_isIn v2 0 4 D_3) (fun y_6 D_7 => if y_6 ≠ 0 then ((f_X12_tellSums 107 5 v2 D_7).bind (fun D_8 => aGd (aIn v1 5) (some (gI D_8 112 v1.toNatClampNeg, D_8)))) else (aBi (f_X12_fail 1 D_7) (fun y_10 D_11 => some (y_10, D_11)))))))
set_option maxRecDepth 100000 in
set_option maxHeartbeats 800000 in
theorem c_X12_sum {G : aG} (hG : gOK G) {shp : List aSh} (hS : aShp shp) {fr : Option Nat} {v1 : Int32} {v2 : Int32} {D : aD} {K : Int32 → aD → Prop} (h : Ok2 (f_X12_sum v1 v2 D) K) : AC G (aRm 5 0 0) M_X12_sum [.ref 88, .int v1, .int v2] fr shp D (aQi shp K) := by
  replace h := Ok2.ok h
  unfold f_X12_sum at h
  refine AC.of (al := [some (.ref 88), some (.int v1), some (.int v2)]) (r := 0) (by decide) (Nat.le_of_ble_eq_true rfl) rfl ?_
  refine aw_aload_n (n := 1) (i := 0) dX12_sum_0 rfl rfl rfl ?_
  refine aw_iconst (n := 2) (v := 0) dX12_sum_1 rfl (by decide) ?_
  obtain ⟨D_1, e_D_1, h⟩ := Ok.let_ h
  refine aw_putI (n := 5) (j := 2) hG.1 fl_RX12_157 (sF_88 hS) rfl e_D_1 dX12_sum_2 rfl ?_
  refine aw_aload_n (n := 6) (i := 0) dX12_sum_5 rfl rfl rfl ?_
  refine aw_iload_n (n := 7) (i := 1) dX12_sum_6 rfl rfl rfl ?_
  refine aw_cVi (M := M_X12_sum) (n := 10) (As := [.int v1]) (rest := []) hG.1 lk_RX12_343 rfl rfl (sF_88 hS) (c_X12_isGarden hG hS (h := Ok.bi h)) (by decide) (Nat.le_of_ble_eq_true rfl) (by decide) (by decide) dX12_sum_7 rfl (fun y_2 D_3 h => ?_)
  refine aw_if_eq (n := 13) (tgt := 22) dX12_sum_10 rfl (by decide) (fun c => ?_) (fun c => ?_)
  · replace h := Ok.ift h c
    refine aw_aload_n (n := 23) (i := 0) dX12_sum_22 rfl rfl rfl ?_
    refine aw_iconst (n := 24) (v := 1) dX12_sum_23 rfl (by decide) ?_
    refine aw_cVi (M := M_X12_sum) (n := 27) (As := [.int 1]) (rest := []) hG.1 lk_RX12_290 rfl rfl (sF_88 hS) (c_X12_fail hG hS (h := Ok.bi h)) (by decide) (Nat.le_of_ble_eq_true rfl) (by decide) (by decide) dX12_sum_24 rfl (fun y_4 D_5 h => ?_)
    exact aw_iret rfl (by decide) (by decide) dX12_sum_27 ⟨_, rfl, rfl, (Ok.dn h :)⟩
  · replace h := Ok.iff h c
    refine aw_iload_n (n := 14) (i := 2) dX12_sum_13 rfl rfl rfl ?_
    refine aw_iconst (n := 15) (v := 0) dX12_sum_14 rfl (by decide) ?_
    refine aw_iconst (n := 16) (v := 4) dX12_sum_15 rfl (by decide) ?_
    refine aw_cSi (M := M_X12_sum) (n := 19) (As := [.int v2, .int 0, .int 4]) (rest := []) lk_RX12_160 rfl rfl (c_X12_isIn hG hS (h := Ok.bi h)) (by decide) (Nat.le_of_ble_eq_true rfl) (by decide) (by decide) dX12_sum_16 rfl (fun y_6 D_7 h => ?_)
    refine aw_if_ne (n := 22) (tgt := 28) dX12_sum_19 rfl (by decide) (fun c => ?_) (fun c => ?_)
    · replace h := Ok.ift h c
      refine aw_aload_n (n := 29) (i := 0) dX12_sum_28 rfl rfl rfl ?_
      refine aw_aload_n (n := 30) (i := 0) dX12_sum_29 rfl rfl rfl ?_
      refine aw_getR (n := 33) (j := 29) (r := 107) hG.1 fl_RX12_79 (sF_88 hS) rfl dX12_sum_30 rfl ?_
      refine aw_iload_n (n := 34) (i := 2) dX12_sum_33 rfl rfl rfl ?_
      refine aw_cVv (M := M_X12_sum) (n := 37) (As := [.ref 107, .int v2]) (rest := []) hG.1 lk_RX12_349 rfl rfl (sF_88 hS) (c_X12_tellSums hG hS (h := Ok.bind h) (sF_107 hS)) (by decide) (Nat.le_of_ble_eq_true rfl) (by decide) (by decide) dX12_sum_34 rfl (fun D_8 h => ?_)
      refine aw_aload_n (n := 38) (i := 0) dX12_sum_37 rfl rfl rfl ?_
      refine aw_getR (n := 41) (j := 38) (r := 112) hG.1 fl_RX12_97 (sF_88 hS) rfl dX12_sum_38 rfl ?_
      refine aw_iload_n (n := 42) (i := 1) dX12_sum_41 rfl rfl rfl ?_
      obtain ⟨g_9, h⟩ := Ok.gd h
      refine aw_iaload (n := 43) hG.1 (sF_112 hS) (aIn_in g_9) dX12_sum_42 rfl ?_
      exact aw_iret rfl (by decide) (by decide) dX12_sum_43 ⟨_, rfl, rfl, (Ok.dn h :)⟩
    · replace h := Ok.iffn h c
      refine aw_aload_n (n := 23) (i := 0) dX12_sum_22 rfl rfl rfl ?_
      refine aw_iconst (n := 24) (v := 1) dX12_sum_23 rfl (by decide) ?_
      refine aw_cVi (M := M_X12_sum) (n := 27) (As := [.int 1]) (rest := []) hG.1 lk_RX12_290 rfl rfl (sF_88 hS) (c_X12_fail hG hS (h := Ok.bi h)) (by decide) (Nat.le_of_ble_eq_true rfl) (by decide) (by decide) dX12_sum_24 rfl (fun y_10 D_11 h => ?_)
      exact aw_iret rfl (by decide) (by decide) dX12_sum_27 ⟨_, rfl, rfl, (Ok.dn h :)⟩
