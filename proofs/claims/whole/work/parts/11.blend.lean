theorem dX7_kindOf_0 : decode cX7_kindOf 0 = .ok (.iload_n 0, 1) := by decide +kernel
theorem dX7_kindOf_1 : decode cX7_kindOf 1 = .ok (.bipush 97, 2) := by decide +kernel
theorem dX7_kindOf_3 : decode cX7_kindOf 3 = .ok (.if_icmp .lt 11, 3) := by decide +kernel
theorem dX7_kindOf_6 : decode cX7_kindOf 6 = .ok (.iload_n 0, 1) := by decide +kernel
theorem dX7_kindOf_7 : decode cX7_kindOf 7 = .ok (.bipush 122, 2) := by decide +kernel
theorem dX7_kindOf_9 : decode cX7_kindOf 9 = .ok (.if_icmp .gt 5, 3) := by decide +kernel
theorem dX7_kindOf_12 : decode cX7_kindOf 12 = .ok (.iconst 1, 1) := by decide +kernel
theorem dX7_kindOf_13 : decode cX7_kindOf 13 = .ok (.ireturn, 1) := by decide +kernel
theorem dX7_kindOf_14 : decode cX7_kindOf 14 = .ok (.iload_n 0, 1) := by decide +kernel
theorem dX7_kindOf_15 : decode cX7_kindOf 15 = .ok (.bipush 48, 2) := by decide +kernel
theorem dX7_kindOf_17 : decode cX7_kindOf 17 = .ok (.if_icmp .lt 11, 3) := by decide +kernel
theorem dX7_kindOf_20 : decode cX7_kindOf 20 = .ok (.iload_n 0, 1) := by decide +kernel
theorem dX7_kindOf_21 : decode cX7_kindOf 21 = .ok (.bipush 57, 2) := by decide +kernel
theorem dX7_kindOf_23 : decode cX7_kindOf 23 = .ok (.if_icmp .gt 5, 3) := by decide +kernel
theorem dX7_kindOf_26 : decode cX7_kindOf 26 = .ok (.iconst 2, 1) := by decide +kernel
theorem dX7_kindOf_27 : decode cX7_kindOf 27 = .ok (.ireturn, 1) := by decide +kernel
theorem dX7_kindOf_28 : decode cX7_kindOf 28 = .ok (.iload_n 0, 1) := by decide +kernel
theorem dX7_kindOf_29 : decode cX7_kindOf 29 = .ok (.bipush 59, 2) := by decide +kernel
theorem dX7_kindOf_31 : decode cX7_kindOf 31 = .ok (.if_icmp .ne 7, 3) := by decide +kernel
theorem dX7_kindOf_34 : decode cX7_kindOf 34 = .ok (.iconst 3, 1) := by decide +kernel
theorem dX7_kindOf_35 : decode cX7_kindOf 35 = .ok (.goto 14, 3) := by decide +kernel
theorem dX7_kindOf_38 : decode cX7_kindOf 38 = .ok (.iload_n 0, 1) := by decide +kernel
theorem dX7_kindOf_39 : decode cX7_kindOf 39 = .ok (.bipush 45, 2) := by decide +kernel
theorem dX7_kindOf_41 : decode cX7_kindOf 41 = .ok (.if_icmp .ne 7, 3) := by decide +kernel
theorem dX7_kindOf_44 : decode cX7_kindOf 44 = .ok (.iconst 4, 1) := by decide +kernel
theorem dX7_kindOf_45 : decode cX7_kindOf 45 = .ok (.goto 4, 3) := by decide +kernel
theorem dX7_kindOf_48 : decode cX7_kindOf 48 = .ok (.iconst 5, 1) := by decide +kernel
theorem dX7_kindOf_49 : decode cX7_kindOf 49 = .ok (.ireturn, 1) := by decide +kernel
def J_X7_kindOf_28 (v0 : Int32) (D : aD) : Option (Int32 × aD) :=
  if v0 ≠ 59 then (if v0 ≠ 45 then (some (5, D)) else (some (4, D))) else (some (3, D))
def J_X7_kindOf_14 (v0 : Int32) (D : aD) : Option (Int32 × aD) :=
  if v0 < 48 then (J_X7_kindOf_28 v0 D) else (if 57 < v0 then (J_X7_kindOf_28 v0 D) else (some (2, D)))
def f_X7_kindOf (v0 : Int32) (D : aD) : Option (Int32 × aD) :=
  if v0 < 97 then (J_X7_kindOf_14 v0 D) else (if 122 < v0 then (J_X7_kindOf_14 v0 D) else (some (1, D)))
set_option maxRecDepth 100000 in
set_option maxHeartbeats 800000 in
theorem c_X7_kindOf {G : aG} (hG : gOK G) {shp : List aSh} (hS : aShp shp) {fr : Option Nat} {v0 : Int32} {D : aD} {K : Int32 → aD → Prop} (h : Ok2 (f_X7_kindOf v0 D) K) : AC G (aRm 1 0 0) M_X7_kindOf [.int v0] fr shp D (aQi shp K) := by
  replace h := Ok2.ok h
  unfold f_X7_kindOf at h
  refine AC.of (al := [some (.int v0)]) (r := 0) (by decide) (Nat.le_of_ble_eq_true rfl) rfl ?_
  have hJ_28 : ∀ (v0 : Int32) (D : aD), Ok (J_X7_kindOf_28 v0 D) (fun r => K r.1 r.2) → AW G (aRm 1 0 0) M_X7_kindOf fr 0 0 28 [some (.int v0)] [] shp D (aQi shp K) := by
    intro v0 D h
    unfold J_X7_kindOf_28 at h
    refine aw_iload_n (n := 29) (i := 0) dX7_kindOf_28 rfl rfl rfl ?_
    refine aw_bipush (n := 31) (v := 59) dX7_kindOf_29 rfl (by decide) ?_
    refine aw_icmp_ne (n := 34) (tgt := 38) dX7_kindOf_31 rfl (by decide) (fun c => ?_) (fun c => ?_)
    · replace h := Ok.ift h c
      refine aw_iload_n (n := 39) (i := 0) dX7_kindOf_38 rfl rfl rfl ?_
      refine aw_bipush (n := 41) (v := 45) dX7_kindOf_39 rfl (by decide) ?_
      refine aw_icmp_ne (n := 44) (tgt := 48) dX7_kindOf_41 rfl (by decide) (fun c => ?_) (fun c => ?_)
      · replace h := Ok.ift h c
        refine aw_iconst (n := 49) (v := 5) dX7_kindOf_48 rfl (by decide) ?_
        exact aw_iret rfl (by decide) (by decide) dX7_kindOf_49 ⟨_, rfl, rfl, (Ok.dn h :)⟩
      · replace h := Ok.iffn h c
        refine aw_iconst (n := 45) (v := 4) dX7_kindOf_44 rfl (by decide) ?_
        refine aw_goto (tgt := 49) dX7_kindOf_45 (by decide) ?_
        exact aw_iret rfl (by decide) (by decide) dX7_kindOf_49 ⟨_, rfl, rfl, (Ok.dn h :)⟩
    · replace h := Ok.iffn h c
      refine aw_iconst (n := 35) (v := 3) dX7_kindOf_34 rfl (by decide) ?_
      refine aw_goto (tgt := 49) dX7_kindOf_35 (by decide) ?_
      exact aw_iret rfl (by decide) (by decide) dX7_kindOf_49 ⟨_, rfl, rfl, (Ok.dn h :)⟩
  have hJ_14 : ∀ (v0 : Int32) (D : aD), Ok (J_X7_kindOf_14 v0 D) (fun r => K r.1 r.2) → AW G (aRm 1 0 0) M_X7_kindOf fr 0 0 14 [some (.int v0)] [] shp D (aQi shp K) := by
    intro v0 D h
    unfold J_X7_kindOf_14 at h
    refine aw_iload_n (n := 15) (i := 0) dX7_kindOf_14 rfl rfl rfl ?_
    refine aw_bipush (n := 17) (v := 48) dX7_kindOf_15 rfl (by decide) ?_
    refine aw_icmp_lt (n := 20) (tgt := 28) dX7_kindOf_17 rfl (by decide) (fun c => ?_) (fun c => ?_)
    · replace h := Ok.ift h c
      exact aw_le' (hJ_28 v0 D h) ⟨rfl, trivial⟩
    · replace h := Ok.iff h c
      refine aw_iload_n (n := 21) (i := 0) dX7_kindOf_20 rfl rfl rfl ?_
      refine aw_bipush (n := 23) (v := 57) dX7_kindOf_21 rfl (by decide) ?_
      refine aw_icmp_gt (n := 26) (tgt := 28) dX7_kindOf_23 rfl (by decide) (fun c => ?_) (fun c => ?_)
      · replace h := Ok.ift h c
        exact aw_le' (hJ_28 v0 D h) ⟨rfl, trivial⟩
      · replace h := Ok.iff h c
        refine aw_iconst (n := 27) (v := 2) dX7_kindOf_26 rfl (by decide) ?_
        exact aw_iret rfl (by decide) (by decide) dX7_kindOf_27 ⟨_, rfl, rfl, (Ok.dn h :)⟩
  refine aw_iload_n (n := 1) (i := 0) dX7_kindOf_0 rfl rfl rfl ?_
  refine aw_bipush (n := 3) (v := 97) dX7_kindOf_1 rfl (by decide) ?_
  refine aw_icmp_lt (n := 6) (tgt := 14) dX7_kindOf_3 rfl (by decide) (fun c => ?_) (fun c => ?_)
  · replace h := Ok.ift h c
    exact aw_le' (hJ_14 v0 D h) ⟨rfl, trivial⟩
  · replace h := Ok.iff h c
    refine aw_iload_n (n := 7) (i := 0) dX7_kindOf_6 rfl rfl rfl ?_
    refine aw_bipush (n := 9) (v := 122) dX7_kindOf_7 rfl (by decide) ?_
    refine aw_icmp_gt (n := 12) (tgt := 14) dX7_kindOf_9 rfl (by decide) (fun c => ?_) (fun c => ?_)
    · replace h := Ok.ift h c
      exact aw_le' (hJ_14 v0 D h) ⟨rfl, trivial⟩
    · replace h := Ok.iff h c
      refine aw_iconst (n := 13) (v := 1) dX7_kindOf_12 rfl (by decide) ?_
      exact aw_iret rfl (by decide) (by decide) dX7_kindOf_13 ⟨_, rfl, rfl, (Ok.dn h :)⟩
theorem dX7_take_0 : decode cX7_take 0 = .ok (.aload_n 0, 1) := by decide +kernel
theorem dX7_take_1 : decode cX7_take 1 = .ok (.getfield 29, 3) := by decide +kernel
theorem dX7_take_4 : decode cX7_take 4 = .ok (.aload_n 0, 1) := by decide +kernel
theorem dX7_take_5 : decode cX7_take 5 = .ok (.getfield 25, 3) := by decide +kernel
theorem dX7_take_8 : decode cX7_take 8 = .ok (.if_icmp .ge 44, 3) := by decide +kernel
theorem dX7_take_11 : decode cX7_take 11 = .ok (.aload_n 0, 1) := by decide +kernel
theorem dX7_take_12 : decode cX7_take 12 = .ok (.getfield 9, 3) := by decide +kernel
theorem dX7_take_15 : decode cX7_take 15 = .ok (.aload_n 0, 1) := by decide +kernel
theorem dX7_take_16 : decode cX7_take 16 = .ok (.getfield 29, 3) := by decide +kernel
theorem dX7_take_19 : decode cX7_take 19 = .ok (.baload, 1) := by decide +kernel
theorem dX7_take_20 : decode cX7_take 20 = .ok (.bipush 32, 2) := by decide +kernel
theorem dX7_take_22 : decode cX7_take 22 = .ok (.if_icmp .eq 17, 3) := by decide +kernel
theorem dX7_take_25 : decode cX7_take 25 = .ok (.aload_n 0, 1) := by decide +kernel
theorem dX7_take_26 : decode cX7_take 26 = .ok (.getfield 9, 3) := by decide +kernel
theorem dX7_take_29 : decode cX7_take 29 = .ok (.aload_n 0, 1) := by decide +kernel
theorem dX7_take_30 : decode cX7_take 30 = .ok (.getfield 29, 3) := by decide +kernel
theorem dX7_take_33 : decode cX7_take 33 = .ok (.baload, 1) := by decide +kernel
theorem dX7_take_34 : decode cX7_take 34 = .ok (.bipush 10, 2) := by decide +kernel
theorem dX7_take_36 : decode cX7_take 36 = .ok (.if_icmp .ne 16, 3) := by decide +kernel
theorem dX7_take_39 : decode cX7_take 39 = .ok (.aload_n 0, 1) := by decide +kernel
theorem dX7_take_40 : decode cX7_take 40 = .ok (.dup, 1) := by decide +kernel
theorem dX7_take_41 : decode cX7_take 41 = .ok (.getfield 29, 3) := by decide +kernel
theorem dX7_take_44 : decode cX7_take 44 = .ok (.iconst 1, 1) := by decide +kernel
theorem dX7_take_45 : decode cX7_take 45 = .ok (.iadd, 1) := by decide +kernel
theorem dX7_take_46 : decode cX7_take 46 = .ok (.putfield 29, 3) := by decide +kernel
theorem dX7_take_49 : decode cX7_take 49 = .ok (.goto (-49), 3) := by decide +kernel
theorem dX7_take_52 : decode cX7_take 52 = .ok (.aload_n 0, 1) := by decide +kernel
theorem dX7_take_53 : decode cX7_take 53 = .ok (.aload_n 0, 1) := by decide +kernel
theorem dX7_take_54 : decode cX7_take 54 = .ok (.getfield 29, 3) := by decide +kernel
theorem dX7_take_57 : decode cX7_take 57 = .ok (.putfield 232, 3) := by decide +kernel
theorem dX7_take_60 : decode cX7_take 60 = .ok (.aload_n 0, 1) := by decide +kernel
theorem dX7_take_61 : decode cX7_take 61 = .ok (.getfield 29, 3) := by decide +kernel
theorem dX7_take_64 : decode cX7_take 64 = .ok (.aload_n 0, 1) := by decide +kernel
theorem dX7_take_65 : decode cX7_take 65 = .ok (.getfield 25, 3) := by decide +kernel
theorem dX7_take_68 : decode cX7_take 68 = .ok (.if_icmp .lt 9, 3) := by decide +kernel
theorem dX7_take_71 : decode cX7_take 71 = .ok (.aload_n 0, 1) := by decide +kernel
theorem dX7_take_72 : decode cX7_take 72 = .ok (.iconst 0, 1) := by decide +kernel
theorem dX7_take_73 : decode cX7_take 73 = .ok (.putfield 49, 3) := by decide +kernel
theorem dX7_take_76 : decode cX7_take 76 = .ok (.return_, 1) := by decide +kernel
theorem dX7_take_77 : decode cX7_take 77 = .ok (.aload_n 0, 1) := by decide +kernel
theorem dX7_take_78 : decode cX7_take 78 = .ok (.aload_n 0, 1) := by decide +kernel
theorem dX7_take_79 : decode cX7_take 79 = .ok (.getfield 9, 3) := by decide +kernel
theorem dX7_take_82 : decode cX7_take 82 = .ok (.aload_n 0, 1) := by decide +kernel
theorem dX7_take_83 : decode cX7_take 83 = .ok (.getfield 29, 3) := by decide +kernel
theorem dX7_take_86 : decode cX7_take 86 = .ok (.baload, 1) := by decide +kernel
theorem dX7_take_87 : decode cX7_take 87 = .ok (.invokestatic 243, 3) := by decide +kernel
theorem dX7_take_90 : decode cX7_take 90 = .ok (.putfield 49, 3) := by decide +kernel
theorem dX7_take_93 : decode cX7_take 93 = .ok (.aload_n 0, 1) := by decide +kernel
theorem dX7_take_94 : decode cX7_take 94 = .ok (.dup, 1) := by decide +kernel
theorem dX7_take_95 : decode cX7_take 95 = .ok (.getfield 29, 3) := by decide +kernel
theorem dX7_take_98 : decode cX7_take 98 = .ok (.iconst 1, 1) := by decide +kernel
theorem dX7_take_99 : decode cX7_take 99 = .ok (.iadd, 1) := by decide +kernel
theorem dX7_take_100 : decode cX7_take 100 = .ok (.putfield 29, 3) := by decide +kernel
theorem dX7_take_103 : decode cX7_take 103 = .ok (.aload_n 0, 1) := by decide +kernel
theorem dX7_take_104 : decode cX7_take 104 = .ok (.getfield 49, 3) := by decide +kernel
theorem dX7_take_107 : decode cX7_take 107 = .ok (.iconst 1, 1) := by decide +kernel
theorem dX7_take_108 : decode cX7_take 108 = .ok (.if_icmp .eq 11, 3) := by decide +kernel
theorem dX7_take_111 : decode cX7_take 111 = .ok (.aload_n 0, 1) := by decide +kernel
theorem dX7_take_112 : decode cX7_take 112 = .ok (.getfield 49, 3) := by decide +kernel
theorem dX7_take_115 : decode cX7_take 115 = .ok (.iconst 2, 1) := by decide +kernel
theorem dX7_take_116 : decode cX7_take 116 = .ok (.if_icmp .ne 46, 3) := by decide +kernel
theorem dX7_take_119 : decode cX7_take 119 = .ok (.aload_n 0, 1) := by decide +kernel
theorem dX7_take_120 : decode cX7_take 120 = .ok (.getfield 29, 3) := by decide +kernel
theorem dX7_take_123 : decode cX7_take 123 = .ok (.aload_n 0, 1) := by decide +kernel
theorem dX7_take_124 : decode cX7_take 124 = .ok (.getfield 25, 3) := by decide +kernel
theorem dX7_take_127 : decode cX7_take 127 = .ok (.if_icmp .ge 35, 3) := by decide +kernel
theorem dX7_take_130 : decode cX7_take 130 = .ok (.aload_n 0, 1) := by decide +kernel
theorem dX7_take_131 : decode cX7_take 131 = .ok (.getfield 9, 3) := by decide +kernel
theorem dX7_take_134 : decode cX7_take 134 = .ok (.aload_n 0, 1) := by decide +kernel
theorem dX7_take_135 : decode cX7_take 135 = .ok (.getfield 29, 3) := by decide +kernel
theorem dX7_take_138 : decode cX7_take 138 = .ok (.baload, 1) := by decide +kernel
theorem dX7_take_139 : decode cX7_take 139 = .ok (.invokestatic 243, 3) := by decide +kernel
theorem dX7_take_142 : decode cX7_take 142 = .ok (.aload_n 0, 1) := by decide +kernel
theorem dX7_take_143 : decode cX7_take 143 = .ok (.getfield 49, 3) := by decide +kernel
theorem dX7_take_146 : decode cX7_take 146 = .ok (.if_icmp .ne 16, 3) := by decide +kernel
theorem dX7_take_149 : decode cX7_take 149 = .ok (.aload_n 0, 1) := by decide +kernel
theorem dX7_take_150 : decode cX7_take 150 = .ok (.dup, 1) := by decide +kernel
theorem dX7_take_151 : decode cX7_take 151 = .ok (.getfield 29, 3) := by decide +kernel
theorem dX7_take_154 : decode cX7_take 154 = .ok (.iconst 1, 1) := by decide +kernel
theorem dX7_take_155 : decode cX7_take 155 = .ok (.iadd, 1) := by decide +kernel
theorem dX7_take_156 : decode cX7_take 156 = .ok (.putfield 29, 3) := by decide +kernel
theorem dX7_take_159 : decode cX7_take 159 = .ok (.goto (-40), 3) := by decide +kernel
theorem dX7_take_162 : decode cX7_take 162 = .ok (.return_, 1) := by decide +kernel
def J_X7_take_162 (D : aD) : Option (aD) :=
  some D
def B_X7_take_119 (D : aD) : Option ((aD) ⊕ ((aD))) :=
  if gI D 56 2 ≤ gI D 56 5 then (some (.inr D)) else (aGd (aIn (gI D 56 5) 700) (aBi (f_X7_kindOf (gI D 1 (gI D 56 5).toNatClampNeg) D) (fun y_8 D_9 => if y_8 ≠ gI D_9 56 3 then (some (.inr D_9)) else (aLet (pI D_9 56 5 ((gI D_9 56 5) + 1)) (fun D_10 => some (.inl D_10))))))
def J_X7_take_119 (D : aD) : Option (aD) :=
  (aLp (fun s => B_X7_take_119 s) D).bind (fun r => J_X7_take_162 r)
def J_X7_take_52 (D : aD) : Option (aD) :=
  aLet (pI D 56 4 (gI D 56 5)) (fun D_1 => if gI D_1 56 5 < gI D_1 56 2 then (aGd (aIn (gI D_1 56 5) 700) (aBi (f_X7_kindOf (gI D_1 1 (gI D_1 56 5).toNatClampNeg) D_1) (fun y_3 D_4 => aLet (pI D_4 56 3 y_3) (fun D_5 => aLet (pI D_5 56 5 ((gI D_5 56 5) + 1)) (fun D_6 => if gI D_6 56 3 = 1 then (J_X7_take_119 D_6) else (if gI D_6 56 3 ≠ 2 then (J_X7_take_162 D_6) else (J_X7_take_119 D_6))))))) else (aLet (pI D_1 56 3 0) (fun D_11 => some D_11)))
def B_X7_take_0 (D : aD) : Option ((aD) ⊕ ((aD))) :=
  if gI D 56 2 ≤ gI D 56 5 then (some (.inr D)) else (aGd (aIn (gI D 56 5) 700) (if gI D 1 (gI D 56 5).toNatClampNeg = 32 then (aLet (pI D 56 5 ((gI D 56 5) + 1)) (fun D_15 => some (.inl D_15))) else (aGd (aIn (gI D 56 5) 700) (if gI D 1 (gI D 56 5).toNatClampNeg ≠ 10 then (some (.inr D)) else (aLet (pI D 56 5 ((gI D 56 5) + 1)) (fun D_17 => some (.inl D_17)))))))
def J_X7_take_0 (D : aD) : Option (aD) :=
  (aLp (fun s => B_X7_take_0 s) D).bind (fun r => J_X7_take_52 r)
def f_X7_take (D : aD) : Option (aD) :=
  if gI D 56 2 ≤ gI D 56 5 then (J_X7_take_52 D) else (aGd (aIn (gI D 56 5) 700) (if gI D 1 (gI D 56 5).toNatClampNeg = 32 then (aLet (pI D 56 5 ((gI D 56 5) + 1)) (fun D_13 => J_X7_take_0 D_13)) else (aGd (aIn (gI D 56 5) 700) (if gI D 1 (gI D 56 5).toNatClampNeg ≠ 10 then (J_X7_take_52 D) else (aLet (pI D 56 5 ((gI D 56 5) + 1)) (fun D_19 => J_X7_take_0 D_19))))))
set_option maxRecDepth 100000 in
set_option maxHeartbeats 800000 in
theorem c_X7_take {G : aG} (hG : gOK G) {shp : List aSh} (hS : aShp shp) {fr : Option Nat} {D : aD} {K : aD → Prop} (h : Ok (f_X7_take D) K) : AC G (aRm 2 0 0) M_X7_take [.ref 56] fr shp D (aQv shp K) := by
  unfold f_X7_take at h
  refine AC.of (al := [some (.ref 56)]) (r := 0) (by decide) (Nat.le_of_ble_eq_true rfl) rfl ?_
  have hJ_162 : ∀ (D : aD), Ok (J_X7_take_162 D) K → AW G (aRm 2 0 0) M_X7_take fr 0 0 162 [none] [] shp D (aQv shp K) := by
    intro D h
    unfold J_X7_take_162 at h
    exact aw_vret rfl (by decide) (by decide) dX7_take_162 ⟨rfl, rfl, (Ok.dn h :)⟩
  have hJ_119 : ∀ (D : aD), Ok (J_X7_take_119 D) K → AW G (aRm 2 0 0) M_X7_take fr 0 0 119 [some (.ref 56)] [] shp D (aQv shp K) := by
    intro D h
    unfold J_X7_take_119 at h
    refine Ok.lp (P := fun s => AW G (aRm 2 0 0) M_X7_take fr 0 0 119 [some (.ref 56)] [] shp s (aQv shp K)) (fun s Kb119 hL119 hR119 h => ?_) D (Ok.bind h)
    obtain ⟨D, rfl⟩ : ∃ z, z = s := ⟨s, rfl⟩
    replace h : Ok (B_X7_take_119 D) Kb119 := h
    unfold B_X7_take_119 at h
    refine aw_aload_n (n := 120) (i := 0) dX7_take_119 rfl rfl rfl ?_
    refine aw_getI (n := 123) (j := 5) hG.1 fl_RX7_29 (sF_56 hS) rfl dX7_take_120 rfl ?_
    refine aw_aload_n (n := 124) (i := 0) dX7_take_123 rfl rfl rfl ?_
    refine aw_getI (n := 127) (j := 2) hG.1 fl_RX7_25 (sF_56 hS) rfl dX7_take_124 rfl ?_
    refine aw_icmp_ge (n := 130) (tgt := 162) dX7_take_127 rfl (by decide) (fun c => ?_) (fun c => ?_)
    · replace h := Ok.ift h c
      exact aw_le' (hJ_162 D (hR119 D (Ok.dn h :))) trivial
    · replace h := Ok.iff h c
      refine aw_aload_n (n := 131) (i := 0) dX7_take_130 rfl rfl rfl ?_
      refine aw_getR (n := 134) (j := 0) (r := 1) hG.1 fl_RX7_9 (sF_56 hS) rfl dX7_take_131 rfl ?_
      refine aw_aload_n (n := 135) (i := 0) dX7_take_134 rfl rfl rfl ?_
      refine aw_getI (n := 138) (j := 5) hG.1 fl_RX7_29 (sF_56 hS) rfl dX7_take_135 rfl ?_
      obtain ⟨g_7, h⟩ := Ok.gd h
      refine aw_baload (n := 139) hG.1 (sF_1 hS) (aIn_in g_7) dX7_take_138 rfl ?_
      refine aw_cSi (M := M_X7_take) (n := 142) (As := [.int (gI D 1 (gI D 56 5).toNatClampNeg)]) (rest := []) lk_RX7_243 rfl rfl (c_X7_kindOf hG hS (h := Ok.bi h)) (by decide) (Nat.le_of_ble_eq_true rfl) (by decide) (by decide) dX7_take_139 rfl (fun y_8 D_9 h => ?_)
      refine aw_aload_n (n := 143) (i := 0) dX7_take_142 rfl rfl rfl ?_
      refine aw_getI (n := 146) (j := 3) hG.1 fl_RX7_49 (sF_56 hS) rfl dX7_take_143 rfl ?_
      refine aw_icmp_ne (n := 149) (tgt := 162) dX7_take_146 rfl (by decide) (fun c => ?_) (fun c => ?_)
      · replace h := Ok.ift h c
        exact aw_le' (hJ_162 D_9 (hR119 D_9 (Ok.dn h :))) trivial
      · replace h := Ok.iffn h c
        refine aw_aload_n (n := 150) (i := 0) dX7_take_149 rfl rfl rfl ?_
        refine aw_dup (n := 151) dX7_take_150 rfl rfl ?_
        refine aw_getI (n := 154) (j := 5) hG.1 fl_RX7_29 (sF_56 hS) rfl dX7_take_151 rfl ?_
        refine aw_iconst (n := 155) (v := 1) dX7_take_154 rfl (by decide) ?_
        refine aw_iadd (n := 156) dX7_take_155 rfl ?_
        obtain ⟨D_10, e_D_10, h⟩ := Ok.let_ h
        refine aw_putI (n := 159) (j := 5) hG.1 fl_RX7_29 (sF_56 hS) rfl e_D_10 dX7_take_156 rfl ?_
        refine aw_goto (tgt := 119) dX7_take_159 (by decide) ?_
        exact aw_le' (hL119 D_10 (Ok.dn h :)) ⟨rfl, trivial⟩
  have hJ_52 : ∀ (D : aD), Ok (J_X7_take_52 D) K → AW G (aRm 2 0 0) M_X7_take fr 0 0 52 [some (.ref 56)] [] shp D (aQv shp K) := by
    intro D h
    unfold J_X7_take_52 at h
    refine aw_aload_n (n := 53) (i := 0) dX7_take_52 rfl rfl rfl ?_
    refine aw_aload_n (n := 54) (i := 0) dX7_take_53 rfl rfl rfl ?_
    refine aw_getI (n := 57) (j := 5) hG.1 fl_RX7_29 (sF_56 hS) rfl dX7_take_54 rfl ?_
    obtain ⟨D_1, e_D_1, h⟩ := Ok.let_ h
    refine aw_putI (n := 60) (j := 4) hG.1 fl_RX7_232 (sF_56 hS) rfl e_D_1 dX7_take_57 rfl ?_
    refine aw_aload_n (n := 61) (i := 0) dX7_take_60 rfl rfl rfl ?_
    refine aw_getI (n := 64) (j := 5) hG.1 fl_RX7_29 (sF_56 hS) rfl dX7_take_61 rfl ?_
    refine aw_aload_n (n := 65) (i := 0) dX7_take_64 rfl rfl rfl ?_
    refine aw_getI (n := 68) (j := 2) hG.1 fl_RX7_25 (sF_56 hS) rfl dX7_take_65 rfl ?_
    refine aw_icmp_lt (n := 71) (tgt := 77) dX7_take_68 rfl (by decide) (fun c => ?_) (fun c => ?_)
    · replace h := Ok.ift h c
      refine aw_aload_n (n := 78) (i := 0) dX7_take_77 rfl rfl rfl ?_
      refine aw_aload_n (n := 79) (i := 0) dX7_take_78 rfl rfl rfl ?_
      refine aw_getR (n := 82) (j := 0) (r := 1) hG.1 fl_RX7_9 (sF_56 hS) rfl dX7_take_79 rfl ?_
      refine aw_aload_n (n := 83) (i := 0) dX7_take_82 rfl rfl rfl ?_
      refine aw_getI (n := 86) (j := 5) hG.1 fl_RX7_29 (sF_56 hS) rfl dX7_take_83 rfl ?_
      obtain ⟨g_2, h⟩ := Ok.gd h
      refine aw_baload (n := 87) hG.1 (sF_1 hS) (aIn_in g_2) dX7_take_86 rfl ?_
      refine aw_cSi (M := M_X7_take) (n := 90) (As := [.int (gI D_1 1 (gI D_1 56 5).toNatClampNeg)]) (rest := [.ref 56]) lk_RX7_243 rfl rfl (c_X7_kindOf hG hS (h := Ok.bi h)) (by decide) (Nat.le_of_ble_eq_true rfl) (by decide) (by decide) dX7_take_87 rfl (fun y_3 D_4 h => ?_)
      obtain ⟨D_5, e_D_5, h⟩ := Ok.let_ h
      refine aw_putI (n := 93) (j := 3) hG.1 fl_RX7_49 (sF_56 hS) rfl e_D_5 dX7_take_90 rfl ?_
      refine aw_aload_n (n := 94) (i := 0) dX7_take_93 rfl rfl rfl ?_
      refine aw_dup (n := 95) dX7_take_94 rfl rfl ?_
      refine aw_getI (n := 98) (j := 5) hG.1 fl_RX7_29 (sF_56 hS) rfl dX7_take_95 rfl ?_
      refine aw_iconst (n := 99) (v := 1) dX7_take_98 rfl (by decide) ?_
      refine aw_iadd (n := 100) dX7_take_99 rfl ?_
      obtain ⟨D_6, e_D_6, h⟩ := Ok.let_ h
      refine aw_putI (n := 103) (j := 5) hG.1 fl_RX7_29 (sF_56 hS) rfl e_D_6 dX7_take_100 rfl ?_
      refine aw_aload_n (n := 104) (i := 0) dX7_take_103 rfl rfl rfl ?_
      refine aw_getI (n := 107) (j := 3) hG.1 fl_RX7_49 (sF_56 hS) rfl dX7_take_104 rfl ?_
      refine aw_iconst (n := 108) (v := 1) dX7_take_107 rfl (by decide) ?_
      refine aw_icmp_eq (n := 111) (tgt := 119) dX7_take_108 rfl (by decide) (fun c => ?_) (fun c => ?_)
      · replace h := Ok.ift h c
        exact aw_le' (hJ_119 D_6 h) ⟨rfl, trivial⟩
      · replace h := Ok.iff h c
        refine aw_aload_n (n := 112) (i := 0) dX7_take_111 rfl rfl rfl ?_
        refine aw_getI (n := 115) (j := 3) hG.1 fl_RX7_49 (sF_56 hS) rfl dX7_take_112 rfl ?_
        refine aw_iconst (n := 116) (v := 2) dX7_take_115 rfl (by decide) ?_
        refine aw_icmp_ne (n := 119) (tgt := 162) dX7_take_116 rfl (by decide) (fun c => ?_) (fun c => ?_)
        · replace h := Ok.ift h c
          exact aw_le' (hJ_162 D_6 h) trivial
        · replace h := Ok.iffn h c
          exact aw_le' (hJ_119 D_6 h) ⟨rfl, trivial⟩
    · replace h := Ok.iff h c
      refine aw_aload_n (n := 72) (i := 0) dX7_take_71 rfl rfl rfl ?_
      refine aw_iconst (n := 73) (v := 0) dX7_take_72 rfl (by decide) ?_
      obtain ⟨D_11, e_D_11, h⟩ := Ok.let_ h
      refine aw_putI (n := 76) (j := 3) hG.1 fl_RX7_49 (sF_56 hS) rfl e_D_11 dX7_take_73 rfl ?_
      exact aw_vret rfl (by decide) (by decide) dX7_take_76 ⟨rfl, rfl, (Ok.dn h :)⟩
  have hJ_0 : ∀ (D : aD), Ok (J_X7_take_0 D) K → AW G (aRm 2 0 0) M_X7_take fr 0 0 0 [some (.ref 56)] [] shp D (aQv shp K) := by
    intro D h
    unfold J_X7_take_0 at h
    refine Ok.lp (P := fun s => AW G (aRm 2 0 0) M_X7_take fr 0 0 0 [some (.ref 56)] [] shp s (aQv shp K)) (fun s Kb0 hL0 hR0 h => ?_) D (Ok.bind h)
    obtain ⟨D, rfl⟩ : ∃ z, z = s := ⟨s, rfl⟩
    replace h : Ok (B_X7_take_0 D) Kb0 := h
    unfold B_X7_take_0 at h
    refine aw_aload_n (n := 1) (i := 0) dX7_take_0 rfl rfl rfl ?_
    refine aw_getI (n := 4) (j := 5) hG.1 fl_RX7_29 (sF_56 hS) rfl dX7_take_1 rfl ?_
    refine aw_aload_n (n := 5) (i := 0) dX7_take_4 rfl rfl rfl ?_
    refine aw_getI (n := 8) (j := 2) hG.1 fl_RX7_25 (sF_56 hS) rfl dX7_take_5 rfl ?_
    refine aw_icmp_ge (n := 11) (tgt := 52) dX7_take_8 rfl (by decide) (fun c => ?_) (fun c => ?_)
    · replace h := Ok.ift h c
      exact aw_le' (hJ_52 D (hR0 D (Ok.dn h :))) ⟨rfl, trivial⟩
    · replace h := Ok.iff h c
      refine aw_aload_n (n := 12) (i := 0) dX7_take_11 rfl rfl rfl ?_
      refine aw_getR (n := 15) (j := 0) (r := 1) hG.1 fl_RX7_9 (sF_56 hS) rfl dX7_take_12 rfl ?_
      refine aw_aload_n (n := 16) (i := 0) dX7_take_15 rfl rfl rfl ?_
      refine aw_getI (n := 19) (j := 5) hG.1 fl_RX7_29 (sF_56 hS) rfl dX7_take_16 rfl ?_
      obtain ⟨g_14, h⟩ := Ok.gd h
      refine aw_baload (n := 20) hG.1 (sF_1 hS) (aIn_in g_14) dX7_take_19 rfl ?_
      refine aw_bipush (n := 22) (v := 32) dX7_take_20 rfl (by decide) ?_
      refine aw_icmp_eq (n := 25) (tgt := 39) dX7_take_22 rfl (by decide) (fun c => ?_) (fun c => ?_)
      · replace h := Ok.ift h c
        refine aw_aload_n (n := 40) (i := 0) dX7_take_39 rfl rfl rfl ?_
        refine aw_dup (n := 41) dX7_take_40 rfl rfl ?_
        refine aw_getI (n := 44) (j := 5) hG.1 fl_RX7_29 (sF_56 hS) rfl dX7_take_41 rfl ?_
        refine aw_iconst (n := 45) (v := 1) dX7_take_44 rfl (by decide) ?_
        refine aw_iadd (n := 46) dX7_take_45 rfl ?_
        obtain ⟨D_15, e_D_15, h⟩ := Ok.let_ h
        refine aw_putI (n := 49) (j := 5) hG.1 fl_RX7_29 (sF_56 hS) rfl e_D_15 dX7_take_46 rfl ?_
        refine aw_goto (tgt := 0) dX7_take_49 (by decide) ?_
        exact aw_le' (hL0 D_15 (Ok.dn h :)) ⟨rfl, trivial⟩
      · replace h := Ok.iff h c
        refine aw_aload_n (n := 26) (i := 0) dX7_take_25 rfl rfl rfl ?_
        refine aw_getR (n := 29) (j := 0) (r := 1) hG.1 fl_RX7_9 (sF_56 hS) rfl dX7_take_26 rfl ?_
        refine aw_aload_n (n := 30) (i := 0) dX7_take_29 rfl rfl rfl ?_
        refine aw_getI (n := 33) (j := 5) hG.1 fl_RX7_29 (sF_56 hS) rfl dX7_take_30 rfl ?_
        obtain ⟨g_16, h⟩ := Ok.gd h
        refine aw_baload (n := 34) hG.1 (sF_1 hS) (aIn_in g_16) dX7_take_33 rfl ?_
        refine aw_bipush (n := 36) (v := 10) dX7_take_34 rfl (by decide) ?_
        refine aw_icmp_ne (n := 39) (tgt := 52) dX7_take_36 rfl (by decide) (fun c => ?_) (fun c => ?_)
        · replace h := Ok.ift h c
          exact aw_le' (hJ_52 D (hR0 D (Ok.dn h :))) ⟨rfl, trivial⟩
        · replace h := Ok.iffn h c
          refine aw_aload_n (n := 40) (i := 0) dX7_take_39 rfl rfl rfl ?_
          refine aw_dup (n := 41) dX7_take_40 rfl rfl ?_
          refine aw_getI (n := 44) (j := 5) hG.1 fl_RX7_29 (sF_56 hS) rfl dX7_take_41 rfl ?_
          refine aw_iconst (n := 45) (v := 1) dX7_take_44 rfl (by decide) ?_
          refine aw_iadd (n := 46) dX7_take_45 rfl ?_
          obtain ⟨D_17, e_D_17, h⟩ := Ok.let_ h
          refine aw_putI (n := 49) (j := 5) hG.1 fl_RX7_29 (sF_56 hS) rfl e_D_17 dX7_take_46 rfl ?_
          refine aw_goto (tgt := 0) dX7_take_49 (by decide) ?_
          exact aw_le' (hL0 D_17 (Ok.dn h :)) ⟨rfl, trivial⟩
  refine aw_aload_n (n := 1) (i := 0) dX7_take_0 rfl rfl rfl ?_
  refine aw_getI (n := 4) (j := 5) hG.1 fl_RX7_29 (sF_56 hS) rfl dX7_take_1 rfl ?_
  refine aw_aload_n (n := 5) (i := 0) dX7_take_4 rfl rfl rfl ?_
  refine aw_getI (n := 8) (j := 2) hG.1 fl_RX7_25 (sF_56 hS) rfl dX7_take_5 rfl ?_
  refine aw_icmp_ge (n := 11) (tgt := 52) dX7_take_8 rfl (by decide) (fun c => ?_) (fun c => ?_)
  · replace h := Ok.ift h c
    exact aw_le' (hJ_52 D h) ⟨rfl, trivial⟩
  · replace h := Ok.iff h c
    refine aw_aload_n (n := 12) (i := 0) dX7_take_11 rfl rfl rfl ?_
    refine aw_getR (n := 15) (j := 0) (r := 1) hG.1 fl_RX7_9 (sF_56 hS) rfl dX7_take_12 rfl ?_
    refine aw_aload_n (n := 16) (i := 0) dX7_take_15 rfl rfl rfl ?_
    refine aw_getI (n := 19) (j := 5) hG.1 fl_RX7_29 (sF_56 hS) rfl dX7_take_16 rfl ?_
    obtain ⟨g_12, h⟩ := Ok.gd h
    refine aw_baload (n := 20) hG.1 (sF_1 hS) (aIn_in g_12) dX7_take_19 rfl ?_
    refine aw_bipush (n := 22) (v := 32) dX7_take_20 rfl (by decide) ?_
    refine aw_icmp_eq (n := 25) (tgt := 39) dX7_take_22 rfl (by decide) (fun c => ?_) (fun c => ?_)
    · replace h := Ok.ift h c
      refine aw_aload_n (n := 40) (i := 0) dX7_take_39 rfl rfl rfl ?_
      refine aw_dup (n := 41) dX7_take_40 rfl rfl ?_
      refine aw_getI (n := 44) (j := 5) hG.1 fl_RX7_29 (sF_56 hS) rfl dX7_take_41 rfl ?_
      refine aw_iconst (n := 45) (v := 1) dX7_take_44 rfl (by decide) ?_
      refine aw_iadd (n := 46) dX7_take_45 rfl ?_
      obtain ⟨D_13, e_D_13, h⟩ := Ok.let_ h
      refine aw_putI (n := 49) (j := 5) hG.1 fl_RX7_29 (sF_56 hS) rfl e_D_13 dX7_take_46 rfl ?_
      refine aw_goto (tgt := 0) dX7_take_49 (by decide) ?_
      exact aw_le' (hJ_0 D_13 h) ⟨rfl, trivial⟩
    · replace h := Ok.iff h c
      refine aw_aload_n (n := 26) (i := 0) dX7_take_25 rfl rfl rfl ?_
      refine aw_getR (n := 29) (j := 0) (r := 1) hG.1 fl_RX7_9 (sF_56 hS) rfl dX7_take_26 rfl ?_
      refine aw_aload_n (n := 30) (i := 0) dX7_take_29 rfl rfl rfl ?_
      refine aw_getI (n := 33) (j := 5) hG.1 fl_RX7_29 (sF_56 hS) rfl dX7_take_30 rfl ?_
      obtain ⟨g_18, h⟩ := Ok.gd h
      refine aw_baload (n := 34) hG.1 (sF_1 hS) (aIn_in g_18) dX7_take_33 rfl ?_
      refine aw_bipush (n := 36) (v := 10) dX7_take_34 rfl (by decide) ?_
      refine aw_icmp_ne (n := 39) (tgt := 52) dX7_take_36 rfl (by decide) (fun c => ?_) (fun c => ?_)
      · replace h := Ok.ift h c
        exact aw_le' (hJ_52 D h) ⟨rfl, trivial⟩
      · replace h := Ok.iffn h c
        refine aw_aload_n (n := 40) (i := 0) dX7_take_39 rfl rfl rfl ?_
        refine aw_dup (n := 41) dX7_take_40 rfl rfl ?_
        refine aw_getI (n := 44) (j := 5) hG.1 fl_RX7_29 (sF_56 hS) rfl dX7_take_41 rfl ?_
        refine aw_iconst (n := 45) (v := 1) dX7_take_44 rfl (by decide) ?_
        refine aw_iadd (n := 46) dX7_take_45 rfl ?_
        obtain ⟨D_19, e_D_19, h⟩ := Ok.let_ h
        refine aw_putI (n := 49) (j := 5) hG.1 fl_RX7_29 (sF_56 hS) rfl e_D_19 dX7_take_46 rfl ?_
        refine aw_goto (tgt := 0) dX7_take_49 (by decide) ?_
        exact aw_le' (hJ_0 D_19 h) ⟨rfl, trivial⟩
theorem dX7_isWord_0 : decode cX7_isWord 0 = .ok (.aload_n 0, 1) := by decide +kernel
theorem dX7_isWord_1 : decode cX7_isWord 1 = .ok (.getfield 49, 3) := by decide +kernel
theorem dX7_isWord_4 : decode cX7_isWord 4 = .ok (.iconst 1, 1) := by decide +kernel
theorem dX7_isWord_5 : decode cX7_isWord 5 = .ok (.if_icmp .ne 19, 3) := by decide +kernel
theorem dX7_isWord_8 : decode cX7_isWord 8 = .ok (.aload_n 0, 1) := by decide +kernel
theorem dX7_isWord_9 : decode cX7_isWord 9 = .ok (.getfield 29, 3) := by decide +kernel
theorem dX7_isWord_12 : decode cX7_isWord 12 = .ok (.aload_n 0, 1) := by decide +kernel
theorem dX7_isWord_13 : decode cX7_isWord 13 = .ok (.getfield 232, 3) := by decide +kernel
theorem dX7_isWord_16 : decode cX7_isWord 16 = .ok (.isub, 1) := by decide +kernel
theorem dX7_isWord_17 : decode cX7_isWord 17 = .ok (.aload_n 1, 1) := by decide +kernel
theorem dX7_isWord_18 : decode cX7_isWord 18 = .ok (.invokevirtual 235, 3) := by decide +kernel
theorem dX7_isWord_21 : decode cX7_isWord 21 = .ok (.if_icmp .eq 5, 3) := by decide +kernel
theorem dX7_isWord_24 : decode cX7_isWord 24 = .ok (.iconst 0, 1) := by decide +kernel
theorem dX7_isWord_25 : decode cX7_isWord 25 = .ok (.ireturn, 1) := by decide +kernel
theorem dX7_isWord_26 : decode cX7_isWord 26 = .ok (.iconst 0, 1) := by decide +kernel
theorem dX7_isWord_27 : decode cX7_isWord 27 = .ok (.istore_n 2, 1) := by decide +kernel
theorem dX7_isWord_28 : decode cX7_isWord 28 = .ok (.iload_n 2, 1) := by decide +kernel
theorem dX7_isWord_29 : decode cX7_isWord 29 = .ok (.aload_n 1, 1) := by decide +kernel
theorem dX7_isWord_30 : decode cX7_isWord 30 = .ok (.invokevirtual 235, 3) := by decide +kernel
theorem dX7_isWord_33 : decode cX7_isWord 33 = .ok (.if_icmp .ge 30, 3) := by decide +kernel
theorem dX7_isWord_36 : decode cX7_isWord 36 = .ok (.aload_n 0, 1) := by decide +kernel
theorem dX7_isWord_37 : decode cX7_isWord 37 = .ok (.getfield 9, 3) := by decide +kernel
theorem dX7_isWord_40 : decode cX7_isWord 40 = .ok (.aload_n 0, 1) := by decide +kernel
theorem dX7_isWord_41 : decode cX7_isWord 41 = .ok (.getfield 232, 3) := by decide +kernel
theorem dX7_isWord_44 : decode cX7_isWord 44 = .ok (.iload_n 2, 1) := by decide +kernel
theorem dX7_isWord_45 : decode cX7_isWord 45 = .ok (.iadd, 1) := by decide +kernel
theorem dX7_isWord_46 : decode cX7_isWord 46 = .ok (.baload, 1) := by decide +kernel
theorem dX7_isWord_47 : decode cX7_isWord 47 = .ok (.aload_n 1, 1) := by decide +kernel
theorem dX7_isWord_48 : decode cX7_isWord 48 = .ok (.iload_n 2, 1) := by decide +kernel
theorem dX7_isWord_49 : decode cX7_isWord 49 = .ok (.invokevirtual 239, 3) := by decide +kernel
theorem dX7_isWord_52 : decode cX7_isWord 52 = .ok (.if_icmp .eq 5, 3) := by decide +kernel
theorem dX7_isWord_55 : decode cX7_isWord 55 = .ok (.iconst 0, 1) := by decide +kernel
theorem dX7_isWord_56 : decode cX7_isWord 56 = .ok (.ireturn, 1) := by decide +kernel
theorem dX7_isWord_57 : decode cX7_isWord 57 = .ok (.iinc 2 1, 3) := by decide +kernel
theorem dX7_isWord_60 : decode cX7_isWord 60 = .ok (.goto (-32), 3) := by decide +kernel
theorem dX7_isWord_63 : decode cX7_isWord 63 = .ok (.iconst 1, 1) := by decide +kernel
theorem dX7_isWord_64 : decode cX7_isWord 64 = .ok (.ireturn, 1) := by decide +kernel
def J_X7_isWord_55 (w1 : Nat) (D : aD) : Option (Int32 × aD) :=
  some (0, D)
def J_X7_isWord_63 (w1 : Nat) (D : aD) : Option (Int32 × aD) :=
  some (1, D)
def B_X7_isWord_28 (w1 : Nat) (v2 : Int32) (D : aD) : Option ((Int32 × aD) ⊕ ((aD) ⊕ (aD))) :=
  if sLen w1 ≤ v2 then (some (.inr (.inr (D)))) else (aGd (aIn ((gI D 56 4) + v2) 700) (aGd (aIn v2 (sLenN w1)) (if gI D 1 ((gI D 56 4) + v2).toNatClampNeg = sCh w1 v2 then (aLet (v2 + 1) (fun v2_3 => some (.inl (v2_3, D)))) else (some (.inr (.inl (D)))))))
def J_X7_isWord_28 (w1 : Nat) (v2 : Int32) (D : aD) : Option (Int32 × aD) :=
  (aLp (fun s => B_X7_isWord_28 w1 s.1 s.2) (v2, D)).bind (Sum.elim (fun r => J_X7_isWord_55 w1 r) ((fun r => J_X7_isWord_63 w1 r)))
def f_X7_isWord (w1 : Nat) (D : aD) : Option (Int32 × aD) :=
  if gI D 56 3 ≠ 1 then (some (0, D)) else (if (gI D 56 5) - (gI D 56 4) = sLen w1 then (J_X7_isWord_28 w1 0 D) else (some (0, D)))
set_option maxRecDepth 100000 in
set_option maxHeartbeats 800000 in
theorem c_X7_isWord {G : aG} (hG : gOK G) {shp : List aSh} (hS : aShp shp) {fr : Option Nat} {w1 : Nat} {D : aD} {K : Int32 → aD → Prop} (h : Ok2 (f_X7_isWord w1 D) K) (hw1 : w1 < 13) : AC G (aRm 8 0 0) M_X7_isWord [.ref 56, .ref (10000 + w1)] fr shp D (aQi shp K) := by
  replace h := Ok2.ok h
  unfold f_X7_isWord at h
  refine AC.of (al := [some (.ref 56), some (.ref (10000 + w1)), none]) (r := 1) (by decide) (Nat.le_of_ble_eq_true rfl) rfl ?_
  have hJ_55 : ∀ (D : aD), Ok (J_X7_isWord_55 w1 D) (fun r => K r.1 r.2) → AW G (aRm 8 0 0) M_X7_isWord fr 0 0 55 [none, none, none] [] shp D (aQi shp K) := by
    intro D h
    unfold J_X7_isWord_55 at h
    refine aw_iconst (n := 56) (v := 0) dX7_isWord_55 rfl (by decide) ?_
    exact aw_zret rfl (by decide) (by decide) (by decide) dX7_isWord_56 ⟨_, rfl, rfl, (Ok.dn h :)⟩
  have hJ_63 : ∀ (D : aD), Ok (J_X7_isWord_63 w1 D) (fun r => K r.1 r.2) → AW G (aRm 8 0 0) M_X7_isWord fr 0 0 63 [none, none, none] [] shp D (aQi shp K) := by
    intro D h
    unfold J_X7_isWord_63 at h
    refine aw_iconst (n := 64) (v := 1) dX7_isWord_63 rfl (by decide) ?_
    exact aw_zret rfl (by decide) (by decide) (by decide) dX7_isWord_64 ⟨_, rfl, rfl, (Ok.dn h :)⟩
  have hJ_28 : ∀ (v2 : Int32) (D : aD), Ok (J_X7_isWord_28 w1 v2 D) (fun r => K r.1 r.2) → AW G (aRm 8 0 0) M_X7_isWord fr 0 0 28 [some (.ref 56), some (.ref (10000 + w1)), some (.int v2)] [] shp D (aQi shp K) := by
    intro v2 D h
    unfold J_X7_isWord_28 at h
    refine Ok.lp (P := fun s => AW G (aRm 8 0 0) M_X7_isWord fr 0 0 28 [some (.ref 56), some (.ref (10000 + w1)), some (.int (s.1))] [] shp s.2 (aQi shp K)) (fun s Kb28 hL28 hR28 h => ?_) (v2, D) (Ok.bind h)
    obtain ⟨v2, D⟩ := s
    replace h : Ok (B_X7_isWord_28 w1 v2 D) Kb28 := h
    unfold B_X7_isWord_28 at h
    refine aw_iload_n (n := 29) (i := 2) dX7_isWord_28 rfl rfl rfl ?_
    refine aw_aload_n (n := 30) (i := 1) dX7_isWord_29 rfl rfl rfl ?_
    refine aw_strlen (M := M_X7_isWord) (n := 33) (w := w1) hG lk_RX7_235 hw1 rfl rfl ⟨rfl, rfl⟩ dX7_isWord_30 rfl ?_
    refine aw_icmp_ge (n := 36) (tgt := 63) dX7_isWord_33 rfl (by decide) (fun c => ?_) (fun c => ?_)
    · replace h := Ok.ift h c
      exact aw_le' (hJ_63 D (Ok.er (hR28 (.inr (D)) (Ok.dn h :)) :)) trivial
    · replace h := Ok.iff h c
      refine aw_aload_n (n := 37) (i := 0) dX7_isWord_36 rfl rfl rfl ?_
      refine aw_getR (n := 40) (j := 0) (r := 1) hG.1 fl_RX7_9 (sF_56 hS) rfl dX7_isWord_37 rfl ?_
      refine aw_aload_n (n := 41) (i := 0) dX7_isWord_40 rfl rfl rfl ?_
      refine aw_getI (n := 44) (j := 4) hG.1 fl_RX7_232 (sF_56 hS) rfl dX7_isWord_41 rfl ?_
      refine aw_iload_n (n := 45) (i := 2) dX7_isWord_44 rfl rfl rfl ?_
      refine aw_iadd (n := 46) dX7_isWord_45 rfl ?_
      obtain ⟨g_1, h⟩ := Ok.gd h
      refine aw_baload (n := 47) hG.1 (sF_1 hS) (aIn_in g_1) dX7_isWord_46 rfl ?_
      refine aw_aload_n (n := 48) (i := 1) dX7_isWord_47 rfl rfl rfl ?_
      refine aw_iload_n (n := 49) (i := 2) dX7_isWord_48 rfl rfl rfl ?_
      obtain ⟨g_2, h⟩ := Ok.gd h
      refine aw_strchar (M := M_X7_isWord) (n := 52) (w := w1) hG lk_RX7_239 hw1 (aIn_in g_2) rfl rfl ⟨rfl, rfl⟩ dX7_isWord_49 rfl ?_
      refine aw_icmp_eq (n := 55) (tgt := 57) dX7_isWord_52 rfl (by decide) (fun c => ?_) (fun c => ?_)
      · replace h := Ok.ift h c
        obtain ⟨v2_3, e_v2_3, h⟩ := Ok.let_ h
        refine aw_iinc (n := 60) (al' := [some (.ref 56), some (.ref (10000 + w1)), some (.int v2_3)]) dX7_isWord_57 rfl rfl e_v2_3 (by decide) rfl ?_
        refine aw_goto (tgt := 28) dX7_isWord_60 (by decide) ?_
        exact aw_le' (hL28 (v2_3, D) (Ok.dn h :)) ⟨rfl, ⟨rfl, ⟨rfl, trivial⟩⟩⟩
      · replace h := Ok.iff h c
        exact aw_le' (hJ_55 D (Ok.el (hR28 (.inl (D)) (Ok.dn h :)) :)) trivial
  refine aw_aload_n (n := 1) (i := 0) dX7_isWord_0 rfl rfl rfl ?_
  refine aw_getI (n := 4) (j := 3) hG.1 fl_RX7_49 (sF_56 hS) rfl dX7_isWord_1 rfl ?_
  refine aw_iconst (n := 5) (v := 1) dX7_isWord_4 rfl (by decide) ?_
  refine aw_icmp_ne (n := 8) (tgt := 24) dX7_isWord_5 rfl (by decide) (fun c => ?_) (fun c => ?_)
  · replace h := Ok.ift h c
    refine aw_iconst (n := 25) (v := 0) dX7_isWord_24 rfl (by decide) ?_
    exact aw_zret rfl (by decide) (by decide) (by decide) dX7_isWord_25 ⟨_, rfl, rfl, (Ok.dn h :)⟩
  · replace h := Ok.iffn h c
    refine aw_aload_n (n := 9) (i := 0) dX7_isWord_8 rfl rfl rfl ?_
    refine aw_getI (n := 12) (j := 5) hG.1 fl_RX7_29 (sF_56 hS) rfl dX7_isWord_9 rfl ?_
    refine aw_aload_n (n := 13) (i := 0) dX7_isWord_12 rfl rfl rfl ?_
    refine aw_getI (n := 16) (j := 4) hG.1 fl_RX7_232 (sF_56 hS) rfl dX7_isWord_13 rfl ?_
    refine aw_isub (n := 17) dX7_isWord_16 rfl ?_
    refine aw_aload_n (n := 18) (i := 1) dX7_isWord_17 rfl rfl rfl ?_
    refine aw_strlen (M := M_X7_isWord) (n := 21) (w := w1) hG lk_RX7_235 hw1 rfl rfl ⟨rfl, rfl⟩ dX7_isWord_18 rfl ?_
    refine aw_icmp_eq (n := 24) (tgt := 26) dX7_isWord_21 rfl (by decide) (fun c => ?_) (fun c => ?_)
    · replace h := Ok.ift h c
      refine aw_iconst (n := 27) (v := 0) dX7_isWord_26 rfl (by decide) ?_
      refine aw_istore_n (n := 28) (i := 2) (al' := [some (.ref 56), some (.ref (10000 + w1)), some (.int 0)]) dX7_isWord_27 rfl rfl rfl (by decide) rfl ?_
      exact aw_le' (hJ_28 0 D h) ⟨rfl, ⟨rfl, ⟨rfl, trivial⟩⟩⟩
    · replace h := Ok.iff h c
      refine aw_iconst (n := 25) (v := 0) dX7_isWord_24 rfl (by decide) ?_
      exact aw_zret rfl (by decide) (by decide) (by decide) dX7_isWord_25 ⟨_, rfl, rfl, (Ok.dn h :)⟩
theorem dX7_fail_0 : decode cX7_fail 0 = .ok (.aload_n 0, 1) := by decide +kernel
theorem dX7_fail_1 : decode cX7_fail 1 = .ok (.getfield 35, 3) := by decide +kernel
theorem dX7_fail_4 : decode cX7_fail 4 = .ok (.ifCond .ne 16, 3) := by decide +kernel
theorem dX7_fail_7 : decode cX7_fail 7 = .ok (.aload_n 0, 1) := by decide +kernel
theorem dX7_fail_8 : decode cX7_fail 8 = .ok (.iload_n 1, 1) := by decide +kernel
theorem dX7_fail_9 : decode cX7_fail 9 = .ok (.putfield 35, 3) := by decide +kernel
theorem dX7_fail_12 : decode cX7_fail 12 = .ok (.aload_n 0, 1) := by decide +kernel
theorem dX7_fail_13 : decode cX7_fail 13 = .ok (.aload_n 0, 1) := by decide +kernel
theorem dX7_fail_14 : decode cX7_fail 14 = .ok (.getfield 232, 3) := by decide +kernel
theorem dX7_fail_17 : decode cX7_fail 17 = .ok (.putfield 38, 3) := by decide +kernel
theorem dX7_fail_20 : decode cX7_fail 20 = .ok (.return_, 1) := by decide +kernel
def f_X7_fail (v1 : Int32) (D : aD) : Option (aD) :=
  if gI D 56 7 ≠ 0 then (some D) else (aLet (pI D 56 7 v1) (fun D_1 => aLet (pI D_1 56 8 (gI D_1 56 4)) (fun D_2 => some D_2)))
set_option maxRecDepth 100000 in
set_option maxHeartbeats 800000 in
theorem c_X7_fail {G : aG} (hG : gOK G) {shp : List aSh} (hS : aShp shp) {fr : Option Nat} {v1 : Int32} {D : aD} {K : aD → Prop} (h : Ok (f_X7_fail v1 D) K) : AC G (aRm 1 0 0) M_X7_fail [.ref 56, .int v1] fr shp D (aQv shp K) := by
  unfold f_X7_fail at h
  refine AC.of (al := [some (.ref 56), some (.int v1)]) (r := 0) (by decide) (Nat.le_of_ble_eq_true rfl) rfl ?_
  refine aw_aload_n (n := 1) (i := 0) dX7_fail_0 rfl rfl rfl ?_
  refine aw_getI (n := 4) (j := 7) hG.1 fl_RX7_35 (sF_56 hS) rfl dX7_fail_1 rfl ?_
  refine aw_if_ne (n := 7) (tgt := 20) dX7_fail_4 rfl (by decide) (fun c => ?_) (fun c => ?_)
  · replace h := Ok.ift h c
    exact aw_vret rfl (by decide) (by decide) dX7_fail_20 ⟨rfl, rfl, (Ok.dn h :)⟩
  · replace h := Ok.iffn h c
    refine aw_aload_n (n := 8) (i := 0) dX7_fail_7 rfl rfl rfl ?_
    refine aw_iload_n (n := 9) (i := 1) dX7_fail_8 rfl rfl rfl ?_
    obtain ⟨D_1, e_D_1, h⟩ := Ok.let_ h
    refine aw_putI (n := 12) (j := 7) hG.1 fl_RX7_35 (sF_56 hS) rfl e_D_1 dX7_fail_9 rfl ?_
    refine aw_aload_n (n := 13) (i := 0) dX7_fail_12 rfl rfl rfl ?_
    refine aw_aload_n (n := 14) (i := 0) dX7_fail_13 rfl rfl rfl ?_
    refine aw_getI (n := 17) (j := 4) hG.1 fl_RX7_232 (sF_56 hS) rfl dX7_fail_14 rfl ?_
    obtain ⟨D_2, e_D_2, h⟩ := Ok.let_ h
    refine aw_putI (n := 20) (j := 8) hG.1 fl_RX7_38 (sF_56 hS) rfl e_D_2 dX7_fail_17 rfl ?_
    exact aw_vret rfl (by decide) (by decide) dX7_fail_20 ⟨rfl, rfl, (Ok.dn h :)⟩
theorem dX7_needSemicolon_0 : decode cX7_needSemicolon 0 = .ok (.aload_n 0, 1) := by decide +kernel
theorem dX7_needSemicolon_1 : decode cX7_needSemicolon 1 = .ok (.getfield 49, 3) := by decide +kernel
theorem dX7_needSemicolon_4 : decode cX7_needSemicolon 4 = .ok (.iconst 3, 1) := by decide +kernel
theorem dX7_needSemicolon_5 : decode cX7_needSemicolon 5 = .ok (.if_icmp .eq 8, 3) := by decide +kernel
theorem dX7_needSemicolon_8 : decode cX7_needSemicolon 8 = .ok (.aload_n 0, 1) := by decide +kernel
theorem dX7_needSemicolon_9 : decode cX7_needSemicolon 9 = .ok (.iconst 1, 1) := by decide +kernel
theorem dX7_needSemicolon_10 : decode cX7_needSemicolon 10 = .ok (.invokevirtual 124, 3) := by decide +kernel
theorem dX7_needSemicolon_13 : decode cX7_needSemicolon 13 = .ok (.return_, 1) := by decide +kernel
def f_X7_needSemicolon (D : aD) : Option (aD) :=
  if gI D 56 3 = 3 then (some D) else ((f_X7_fail 1 D).bind (fun D_1 => some D_1))
set_option maxRecDepth 100000 in
set_option maxHeartbeats 800000 in
theorem c_X7_needSemicolon {G : aG} (hG : gOK G) {shp : List aSh} (hS : aShp shp) {fr : Option Nat} {D : aD} {K : aD → Prop} (h : Ok (f_X7_needSemicolon D) K) : AC G (aRm 2 0 0) M_X7_needSemicolon [.ref 56] fr shp D (aQv shp K) := by
  unfold f_X7_needSemicolon at h
  refine AC.of (al := [some (.ref 56)]) (r := 0) (by decide) (Nat.le_of_ble_eq_true rfl) rfl ?_
  refine aw_aload_n (n := 1) (i := 0) dX7_needSemicolon_0 rfl rfl rfl ?_
  refine aw_getI (n := 4) (j := 3) hG.1 fl_RX7_49 (sF_56 hS) rfl dX7_needSemicolon_1 rfl ?_
  refine aw_iconst (n := 5) (v := 3) dX7_needSemicolon_4 rfl (by decide) ?_
  refine aw_icmp_eq (n := 8) (tgt := 13) dX7_needSemicolon_5 rfl (by decide) (fun c => ?_) (fun c => ?_)
  · replace h := Ok.ift h c
    exact aw_vret rfl (by decide) (by decide) dX7_needSemicolon_13 ⟨rfl, rfl, (Ok.dn h :)⟩
  · replace h := Ok.iff h c
    refine aw_aload_n (n := 9) (i := 0) dX7_needSemicolon_8 rfl rfl rfl ?_
    refine aw_iconst (n := 10) (v := 1) dX7_needSemicolon_9 rfl (by decide) ?_
    refine aw_cVv (M := M_X7_needSemicolon) (n := 13) (As := [.int 1]) (rest := []) hG.1 lk_RX7_124 rfl rfl (sF_56 hS) (c_X7_fail hG hS (h := Ok.bind h)) (by decide) (Nat.le_of_ble_eq_true rfl) (by decide) (by decide) dX7_needSemicolon_10 rfl (fun D_1 h => ?_)
    exact aw_vret rfl (by decide) (by decide) dX7_needSemicolon_13 ⟨rfl, rfl, (Ok.dn h :)⟩
theorem dX7_close_0 : decode cX7_close 0 = .ok (.aload_n 0, 1) := by decide +kernel
theorem dX7_close_1 : decode cX7_close 1 = .ok (.getfield 35, 3) := by decide +kernel
theorem dX7_close_4 : decode cX7_close 4 = .ok (.ifCond .ne 11, 3) := by decide +kernel
theorem dX7_close_7 : decode cX7_close 7 = .ok (.aload_n 0, 1) := by decide +kernel
theorem dX7_close_8 : decode cX7_close 8 = .ok (.invokevirtual 46, 3) := by decide +kernel
theorem dX7_close_11 : decode cX7_close 11 = .ok (.aload_n 0, 1) := by decide +kernel
theorem dX7_close_12 : decode cX7_close 12 = .ok (.invokevirtual 205, 3) := by decide +kernel
theorem dX7_close_15 : decode cX7_close 15 = .ok (.return_, 1) := by decide +kernel
def f_X7_close (D : aD) : Option (aD) :=
  if gI D 56 7 ≠ 0 then (some D) else ((f_X7_take D).bind (fun D_1 => (f_X7_needSemicolon D_1).bind (fun D_2 => some D_2)))
set_option maxRecDepth 100000 in
set_option maxHeartbeats 800000 in
theorem c_X7_close {G : aG} (hG : gOK G) {shp : List aSh} (hS : aShp shp) {fr : Option Nat} {D : aD} {K : aD → Prop} (h : Ok (f_X7_close D) K) : AC G (aRm 3 0 0) M_X7_close [.ref 56] fr shp D (aQv shp K) := by
  unfold f_X7_close at h
  refine AC.of (al := [some (.ref 56)]) (r := 0) (by decide) (Nat.le_of_ble_eq_true rfl) rfl ?_
  refine aw_aload_n (n := 1) (i := 0) dX7_close_0 rfl rfl rfl ?_
  refine aw_getI (n := 4) (j := 7) hG.1 fl_RX7_35 (sF_56 hS) rfl dX7_close_1 rfl ?_
  refine aw_if_ne (n := 7) (tgt := 15) dX7_close_4 rfl (by decide) (fun c => ?_) (fun c => ?_)
  · replace h := Ok.ift h c
    exact aw_vret rfl (by decide) (by decide) dX7_close_15 ⟨rfl, rfl, (Ok.dn h :)⟩
  · replace h := Ok.iffn h c
    refine aw_aload_n (n := 8) (i := 0) dX7_close_7 rfl rfl rfl ?_
    refine aw_cVv (M := M_X7_close) (n := 11) (As := []) (rest := []) hG.1 lk_RX7_46 rfl rfl (sF_56 hS) (c_X7_take hG hS (h := Ok.bind h)) (by decide) (Nat.le_of_ble_eq_true rfl) (by decide) (by decide) dX7_close_8 rfl (fun D_1 h => ?_)
    refine aw_aload_n (n := 12) (i := 0) dX7_close_11 rfl rfl rfl ?_
    refine aw_cVv (M := M_X7_close) (n := 15) (As := []) (rest := []) hG.1 lk_RX7_205 rfl rfl (sF_56 hS) (c_X7_needSemicolon hG hS (h := Ok.bind h)) (by decide) (Nat.le_of_ble_eq_true rfl) (by decide) (by decide) dX7_close_12 rfl (fun D_2 h => ?_)
    exact aw_vret rfl (by decide) (by decide) dX7_close_15 ⟨rfl, rfl, (Ok.dn h :)⟩
theorem dX7_once_0 : decode cX7_once 0 = .ok (.aload_n 0, 1) := by decide +kernel
theorem dX7_once_1 : decode cX7_once 1 = .ok (.getfield 32, 3) := by decide +kernel
theorem dX7_once_4 : decode cX7_once 4 = .ok (.iload_n 1, 1) := by decide +kernel
theorem dX7_once_5 : decode cX7_once 5 = .ok (.iand, 1) := by decide +kernel
theorem dX7_once_6 : decode cX7_once 6 = .ok (.ifCond .eq 8, 3) := by decide +kernel
theorem dX7_once_9 : decode cX7_once 9 = .ok (.aload_n 0, 1) := by decide +kernel
theorem dX7_once_10 : decode cX7_once 10 = .ok (.iconst 4, 1) := by decide +kernel
theorem dX7_once_11 : decode cX7_once 11 = .ok (.invokevirtual 124, 3) := by decide +kernel
theorem dX7_once_14 : decode cX7_once 14 = .ok (.aload_n 0, 1) := by decide +kernel
theorem dX7_once_15 : decode cX7_once 15 = .ok (.dup, 1) := by decide +kernel
theorem dX7_once_16 : decode cX7_once 16 = .ok (.getfield 32, 3) := by decide +kernel
theorem dX7_once_19 : decode cX7_once 19 = .ok (.iload_n 1, 1) := by decide +kernel
theorem dX7_once_20 : decode cX7_once 20 = .ok (.ior, 1) := by decide +kernel
theorem dX7_once_21 : decode cX7_once 21 = .ok (.putfield 32, 3) := by decide +kernel
theorem dX7_once_24 : decode cX7_once 24 = .ok (.return_, 1) := by decide +kernel
def f_X7_once (v1 : Int32) (D : aD) : Option (aD) :=
  if (gI D 56 6) &&& v1 = 0 then (aLet (pI D 56 6 ((gI D 56 6) ||| v1)) (fun D_1 => some D_1)) else ((f_X7_fail 4 D).bind (fun D_2 => aLet (pI D_2 56 6 ((gI D_2 56 6) ||| v1)) (fun D_3 => some D_3)))
set_option maxRecDepth 100000 in
set_option maxHeartbeats 800000 in
theorem c_X7_once {G : aG} (hG : gOK G) {shp : List aSh} (hS : aShp shp) {fr : Option Nat} {v1 : Int32} {D : aD} {K : aD → Prop} (h : Ok (f_X7_once v1 D) K) : AC G (aRm 2 0 0) M_X7_once [.ref 56, .int v1] fr shp D (aQv shp K) := by
  unfold f_X7_once at h
  refine AC.of (al := [some (.ref 56), some (.int v1)]) (r := 0) (by decide) (Nat.le_of_ble_eq_true rfl) rfl ?_
  refine aw_aload_n (n := 1) (i := 0) dX7_once_0 rfl rfl rfl ?_
  refine aw_getI (n := 4) (j := 6) hG.1 fl_RX7_32 (sF_56 hS) rfl dX7_once_1 rfl ?_
  refine aw_iload_n (n := 5) (i := 1) dX7_once_4 rfl rfl rfl ?_
  refine aw_iand (n := 6) dX7_once_5 rfl ?_
  refine aw_if_eq (n := 9) (tgt := 14) dX7_once_6 rfl (by decide) (fun c => ?_) (fun c => ?_)
  · replace h := Ok.ift h c
    refine aw_aload_n (n := 15) (i := 0) dX7_once_14 rfl rfl rfl ?_
    refine aw_dup (n := 16) dX7_once_15 rfl rfl ?_
    refine aw_getI (n := 19) (j := 6) hG.1 fl_RX7_32 (sF_56 hS) rfl dX7_once_16 rfl ?_
    refine aw_iload_n (n := 20) (i := 1) dX7_once_19 rfl rfl rfl ?_
    refine aw_ior (n := 21) dX7_once_20 rfl ?_
    obtain ⟨D_1, e_D_1, h⟩ := Ok.let_ h
    refine aw_putI (n := 24) (j := 6) hG.1 fl_RX7_32 (sF_56 hS) rfl e_D_1 dX7_once_21 rfl ?_
    exact aw_vret rfl (by decide) (by decide) dX7_once_24 ⟨rfl, rfl, (Ok.dn h :)⟩
  · replace h := Ok.iff h c
    refine aw_aload_n (n := 10) (i := 0) dX7_once_9 rfl rfl rfl ?_
    refine aw_iconst (n := 11) (v := 4) dX7_once_10 rfl (by decide) ?_
    refine aw_cVv (M := M_X7_once) (n := 14) (As := [.int 4]) (rest := []) hG.1 lk_RX7_124 rfl rfl (sF_56 hS) (c_X7_fail hG hS (h := Ok.bind h)) (by decide) (Nat.le_of_ble_eq_true rfl) (by decide) (by decide) dX7_once_11 rfl (fun D_2 h => ?_)
    refine aw_aload_n (n := 15) (i := 0) dX7_once_14 rfl rfl rfl ?_
    refine aw_dup (n := 16) dX7_once_15 rfl rfl ?_
    refine aw_getI (n := 19) (j := 6) hG.1 fl_RX7_32 (sF_56 hS) rfl dX7_once_16 rfl ?_
    refine aw_iload_n (n := 20) (i := 1) dX7_once_19 rfl rfl rfl ?_
    refine aw_ior (n := 21) dX7_once_20 rfl ?_
    obtain ⟨D_3, e_D_3, h⟩ := Ok.let_ h
    refine aw_putI (n := 24) (j := 6) hG.1 fl_RX7_32 (sF_56 hS) rfl e_D_3 dX7_once_21 rfl ?_
    exact aw_vret rfl (by decide) (by decide) dX7_once_24 ⟨rfl, rfl, (Ok.dn h :)⟩
theorem dX7_value_0 : decode cX7_value 0 = .ok (.aload_n 0, 1) := by decide +kernel
theorem dX7_value_1 : decode cX7_value 1 = .ok (.getfield 29, 3) := by decide +kernel
theorem dX7_value_4 : decode cX7_value 4 = .ok (.aload_n 0, 1) := by decide +kernel
theorem dX7_value_5 : decode cX7_value 5 = .ok (.getfield 232, 3) := by decide +kernel
theorem dX7_value_8 : decode cX7_value 8 = .ok (.isub, 1) := by decide +kernel
theorem dX7_value_9 : decode cX7_value 9 = .ok (.iconst 4, 1) := by decide +kernel
theorem dX7_value_10 : decode cX7_value 10 = .ok (.if_icmp .le 7, 3) := by decide +kernel
theorem dX7_value_13 : decode cX7_value 13 = .ok (.sipush 10000, 3) := by decide +kernel
theorem dX7_value_16 : decode cX7_value 16 = .ok (.ireturn, 1) := by decide +kernel
theorem dX7_value_17 : decode cX7_value 17 = .ok (.iconst 0, 1) := by decide +kernel
theorem dX7_value_18 : decode cX7_value 18 = .ok (.istore_n 1, 1) := by decide +kernel
theorem dX7_value_19 : decode cX7_value 19 = .ok (.aload_n 0, 1) := by decide +kernel
theorem dX7_value_20 : decode cX7_value 20 = .ok (.getfield 232, 3) := by decide +kernel
theorem dX7_value_23 : decode cX7_value 23 = .ok (.istore_n 2, 1) := by decide +kernel
theorem dX7_value_24 : decode cX7_value 24 = .ok (.iload_n 2, 1) := by decide +kernel
theorem dX7_value_25 : decode cX7_value 25 = .ok (.aload_n 0, 1) := by decide +kernel
theorem dX7_value_26 : decode cX7_value 26 = .ok (.getfield 29, 3) := by decide +kernel
theorem dX7_value_29 : decode cX7_value 29 = .ok (.if_icmp .ge 24, 3) := by decide +kernel
theorem dX7_value_32 : decode cX7_value 32 = .ok (.iload_n 1, 1) := by decide +kernel
theorem dX7_value_33 : decode cX7_value 33 = .ok (.bipush 10, 2) := by decide +kernel
theorem dX7_value_35 : decode cX7_value 35 = .ok (.imul, 1) := by decide +kernel
theorem dX7_value_36 : decode cX7_value 36 = .ok (.aload_n 0, 1) := by decide +kernel
theorem dX7_value_37 : decode cX7_value 37 = .ok (.getfield 9, 3) := by decide +kernel
theorem dX7_value_40 : decode cX7_value 40 = .ok (.iload_n 2, 1) := by decide +kernel
theorem dX7_value_41 : decode cX7_value 41 = .ok (.baload, 1) := by decide +kernel
theorem dX7_value_42 : decode cX7_value 42 = .ok (.iadd, 1) := by decide +kernel
theorem dX7_value_43 : decode cX7_value 43 = .ok (.bipush 48, 2) := by decide +kernel
theorem dX7_value_45 : decode cX7_value 45 = .ok (.isub, 1) := by decide +kernel
theorem dX7_value_46 : decode cX7_value 46 = .ok (.istore_n 1, 1) := by decide +kernel
theorem dX7_value_47 : decode cX7_value 47 = .ok (.iinc 2 1, 3) := by decide +kernel
theorem dX7_value_50 : decode cX7_value 50 = .ok (.goto (-26), 3) := by decide +kernel
theorem dX7_value_53 : decode cX7_value 53 = .ok (.iload_n 1, 1) := by decide +kernel
theorem dX7_value_54 : decode cX7_value 54 = .ok (.ireturn, 1) := by decide +kernel
def J_X7_value_53 (v1 : Int32) (D : aD) : Option (Int32 × aD) :=
  some (v1, D)
def B_X7_value_24 (v1 : Int32) (v2 : Int32) (D : aD) : Option ((Int32 × Int32 × aD) ⊕ ((Int32 × aD))) :=
  if gI D 56 5 ≤ v2 then (some (.inr (v1, D))) else (aGd (aIn v2 700) (aLet (((v1 * 10) + (gI D 1 v2.toNatClampNeg)) - 48) (fun v1_3 => aLet (v2 + 1) (fun v2_4 => some (.inl (v1_3, v2_4, D))))))
def J_X7_value_24 (v1 : Int32) (v2 : Int32) (D : aD) : Option (Int32 × aD) :=
  (aLp (fun s => B_X7_value_24 s.1 s.2.1 s.2.2) (v1, v2, D)).bind (fun r => J_X7_value_53 (r.1) r.2)
def f_X7_value (D : aD) : Option (Int32 × aD) :=
  if (gI D 56 5) - (gI D 56 4) ≤ 4 then (aLet (gI D 56 4) (fun v2_1 => J_X7_value_24 0 v2_1 D)) else (some (10000, D))
set_option maxRecDepth 100000 in
set_option maxHeartbeats 800000 in
theorem c_X7_value {G : aG} (hG : gOK G) {shp : List aSh} (hS : aShp shp) {fr : Option Nat} {D : aD} {K : Int32 → aD → Prop} (h : Ok2 (f_X7_value D) K) : AC G (aRm 1 0 0) M_X7_value [.ref 56] fr shp D (aQi shp K) := by
  replace h := Ok2.ok h
  unfold f_X7_value at h
  refine AC.of (al := [some (.ref 56), none, none]) (r := 2) (by decide) (Nat.le_of_ble_eq_true rfl) rfl ?_
  have hJ_53 : ∀ (v1 : Int32) (D : aD), Ok (J_X7_value_53 v1 D) (fun r => K r.1 r.2) → AW G (aRm 1 0 0) M_X7_value fr 0 0 53 [none, some (.int v1), none] [] shp D (aQi shp K) := by
    intro v1 D h
    unfold J_X7_value_53 at h
    refine aw_iload_n (n := 54) (i := 1) dX7_value_53 rfl rfl rfl ?_
    exact aw_iret rfl (by decide) (by decide) dX7_value_54 ⟨_, rfl, rfl, (Ok.dn h :)⟩
  have hJ_24 : ∀ (v1 : Int32) (v2 : Int32) (D : aD), Ok (J_X7_value_24 v1 v2 D) (fun r => K r.1 r.2) → AW G (aRm 1 0 0) M_X7_value fr 0 0 24 [some (.ref 56), some (.int v1), some (.int v2)] [] shp D (aQi shp K) := by
    intro v1 v2 D h
    unfold J_X7_value_24 at h
    refine Ok.lp (P := fun s => AW G (aRm 1 0 0) M_X7_value fr 0 0 24 [some (.ref 56), some (.int (s.1)), some (.int (s.2.1))] [] shp s.2.2 (aQi shp K)) (fun s Kb24 hL24 hR24 h => ?_) (v1, v2, D) (Ok.bind h)
    obtain ⟨v1, v2, D⟩ := s
    replace h : Ok (B_X7_value_24 v1 v2 D) Kb24 := h
    unfold B_X7_value_24 at h
    refine aw_iload_n (n := 25) (i := 2) dX7_value_24 rfl rfl rfl ?_
    refine aw_aload_n (n := 26) (i := 0) dX7_value_25 rfl rfl rfl ?_
    refine aw_getI (n := 29) (j := 5) hG.1 fl_RX7_29 (sF_56 hS) rfl dX7_value_26 rfl ?_
    refine aw_icmp_ge (n := 32) (tgt := 53) dX7_value_29 rfl (by decide) (fun c => ?_) (fun c => ?_)
    · replace h := Ok.ift h c
      exact aw_le' (hJ_53 v1 D (hR24 (v1, D) (Ok.dn h :))) ⟨rfl, trivial⟩
    · replace h := Ok.iff h c
      refine aw_iload_n (n := 33) (i := 1) dX7_value_32 rfl rfl rfl ?_
      refine aw_bipush (n := 35) (v := 10) dX7_value_33 rfl (by decide) ?_
      refine aw_imul (n := 36) dX7_value_35 rfl ?_
      refine aw_aload_n (n := 37) (i := 0) dX7_value_36 rfl rfl rfl ?_
      refine aw_getR (n := 40) (j := 0) (r := 1) hG.1 fl_RX7_9 (sF_56 hS) rfl dX7_value_37 rfl ?_
      refine aw_iload_n (n := 41) (i := 2) dX7_value_40 rfl rfl rfl ?_
      obtain ⟨g_2, h⟩ := Ok.gd h
      refine aw_baload (n := 42) hG.1 (sF_1 hS) (aIn_in g_2) dX7_value_41 rfl ?_
      refine aw_iadd (n := 43) dX7_value_42 rfl ?_
      refine aw_bipush (n := 45) (v := 48) dX7_value_43 rfl (by decide) ?_
      refine aw_isub (n := 46) dX7_value_45 rfl ?_
      obtain ⟨v1_3, e_v1_3, h⟩ := Ok.let_ h
      refine aw_istore_n (n := 47) (i := 1) (al' := [some (.ref 56), some (.int v1_3), some (.int v2)]) dX7_value_46 rfl rfl e_v1_3 (by decide) rfl ?_
      obtain ⟨v2_4, e_v2_4, h⟩ := Ok.let_ h
      refine aw_iinc (n := 50) (al' := [some (.ref 56), some (.int v1_3), some (.int v2_4)]) dX7_value_47 rfl rfl e_v2_4 (by decide) rfl ?_
      refine aw_goto (tgt := 24) dX7_value_50 (by decide) ?_
      exact aw_le' (hL24 (v1_3, v2_4, D) (Ok.dn h :)) ⟨rfl, ⟨rfl, ⟨rfl, trivial⟩⟩⟩
  refine aw_aload_n (n := 1) (i := 0) dX7_value_0 rfl rfl rfl ?_
  refine aw_getI (n := 4) (j := 5) hG.1 fl_RX7_29 (sF_56 hS) rfl dX7_value_1 rfl ?_
  refine aw_aload_n (n := 5) (i := 0) dX7_value_4 rfl rfl rfl ?_
  refine aw_getI (n := 8) (j := 4) hG.1 fl_RX7_232 (sF_56 hS) rfl dX7_value_5 rfl ?_
  refine aw_isub (n := 9) dX7_value_8 rfl ?_
  refine aw_iconst (n := 10) (v := 4) dX7_value_9 rfl (by decide) ?_
  refine aw_icmp_le (n := 13) (tgt := 17) dX7_value_10 rfl (by decide) (fun c => ?_) (fun c => ?_)
  · replace h := Ok.ift h c
    refine aw_iconst (n := 18) (v := 0) dX7_value_17 rfl (by decide) ?_
    refine aw_istore_n (n := 19) (i := 1) (al' := [some (.ref 56), some (.int 0), none]) dX7_value_18 rfl rfl rfl (by decide) rfl ?_
    refine aw_aload_n (n := 20) (i := 0) dX7_value_19 rfl rfl rfl ?_
    refine aw_getI (n := 23) (j := 4) hG.1 fl_RX7_232 (sF_56 hS) rfl dX7_value_20 rfl ?_
    obtain ⟨v2_1, e_v2_1, h⟩ := Ok.let_ h
    refine aw_istore_n (n := 24) (i := 2) (al' := [some (.ref 56), some (.int 0), some (.int v2_1)]) dX7_value_23 rfl rfl e_v2_1 (by decide) rfl ?_
    exact aw_le' (hJ_24 0 v2_1 D h) ⟨rfl, ⟨rfl, ⟨rfl, trivial⟩⟩⟩
  · replace h := Ok.iff h c
    refine aw_sipush (n := 16) (v := 10000) dX7_value_13 rfl (by decide) ?_
    exact aw_iret rfl (by decide) (by decide) dX7_value_16 ⟨_, rfl, rfl, (Ok.dn h :)⟩
theorem dX7_numberHere_0 : decode cX7_numberHere 0 = .ok (.aload_n 0, 1) := by decide +kernel
theorem dX7_numberHere_1 : decode cX7_numberHere 1 = .ok (.getfield 49, 3) := by decide +kernel
theorem dX7_numberHere_4 : decode cX7_numberHere 4 = .ok (.iconst 2, 1) := by decide +kernel
theorem dX7_numberHere_5 : decode cX7_numberHere 5 = .ok (.if_icmp .eq 10, 3) := by decide +kernel
theorem dX7_numberHere_8 : decode cX7_numberHere 8 = .ok (.aload_n 0, 1) := by decide +kernel
theorem dX7_numberHere_9 : decode cX7_numberHere 9 = .ok (.iconst 1, 1) := by decide +kernel
theorem dX7_numberHere_10 : decode cX7_numberHere 10 = .ok (.invokevirtual 124, 3) := by decide +kernel
theorem dX7_numberHere_13 : decode cX7_numberHere 13 = .ok (.iload_n 1, 1) := by decide +kernel
theorem dX7_numberHere_14 : decode cX7_numberHere 14 = .ok (.ireturn, 1) := by decide +kernel
theorem dX7_numberHere_15 : decode cX7_numberHere 15 = .ok (.aload_n 0, 1) := by decide +kernel
theorem dX7_numberHere_16 : decode cX7_numberHere 16 = .ok (.invokevirtual 229, 3) := by decide +kernel
theorem dX7_numberHere_19 : decode cX7_numberHere 19 = .ok (.istore_n 3, 1) := by decide +kernel
theorem dX7_numberHere_20 : decode cX7_numberHere 20 = .ok (.iload_n 3, 1) := by decide +kernel
theorem dX7_numberHere_21 : decode cX7_numberHere 21 = .ok (.iload_n 1, 1) := by decide +kernel
theorem dX7_numberHere_22 : decode cX7_numberHere 22 = .ok (.if_icmp .lt 8, 3) := by decide +kernel
theorem dX7_numberHere_25 : decode cX7_numberHere 25 = .ok (.iload_n 3, 1) := by decide +kernel
theorem dX7_numberHere_26 : decode cX7_numberHere 26 = .ok (.iload_n 2, 1) := by decide +kernel
theorem dX7_numberHere_27 : decode cX7_numberHere 27 = .ok (.if_icmp .le 10, 3) := by decide +kernel
theorem dX7_numberHere_30 : decode cX7_numberHere 30 = .ok (.aload_n 0, 1) := by decide +kernel
theorem dX7_numberHere_31 : decode cX7_numberHere 31 = .ok (.iconst 2, 1) := by decide +kernel
theorem dX7_numberHere_32 : decode cX7_numberHere 32 = .ok (.invokevirtual 124, 3) := by decide +kernel
theorem dX7_numberHere_35 : decode cX7_numberHere 35 = .ok (.iload_n 1, 1) := by decide +kernel
theorem dX7_numberHere_36 : decode cX7_numberHere 36 = .ok (.ireturn, 1) := by decide +kernel
theorem dX7_numberHere_37 : decode cX7_numberHere 37 = .ok (.iload_n 3, 1) := by decide +kernel
theorem dX7_numberHere_38 : decode cX7_numberHere 38 = .ok (.ireturn, 1) := by decide +kernel
def J_X7_numberHere_30 (v1 : Int32) (D : aD) : Option (Int32 × aD) :=
  (f_X7_fail 2 D).bind (fun D_3 => some (v1, D_3))
def f_X7_numberHere (v1 : Int32) (v2 : Int32) (D : aD) : Option (Int32 × aD) :=
  if gI D 56 3 = 2 then (aBi (f_X7_value D) (fun y_1 D_2 => if y_1 < v1 then (J_X7_numberHere_30 v1 D_2) else (if y_1 ≤ v2 then (some (y_1, D_2)) else (J_X7_numberHere_30 v1 D_2)))) else ((f_X7_fail 1 D).bind (fun D_4 => some (v1, D_4)))
set_option maxRecDepth 100000 in
set_option maxHeartbeats 800000 in
theorem c_X7_numberHere {G : aG} (hG : gOK G) {shp : List aSh} (hS : aShp shp) {fr : Option Nat} {v1 : Int32} {v2 : Int32} {D : aD} {K : Int32 → aD → Prop} (h : Ok2 (f_X7_numberHere v1 v2 D) K) : AC G (aRm 2 0 0) M_X7_numberHere [.ref 56, .int v1, .int v2] fr shp D (aQi shp K) := by
  replace h := Ok2.ok h
  unfold f_X7_numberHere at h
  refine AC.of (al := [some (.ref 56), some (.int v1), some (.int v2), none]) (r := 1) (by decide) (Nat.le_of_ble_eq_true rfl) rfl ?_
  have hJ_30 : ∀ (v1 : Int32) (D : aD), Ok (J_X7_numberHere_30 v1 D) (fun r => K r.1 r.2) → AW G (aRm 2 0 0) M_X7_numberHere fr 0 0 30 [some (.ref 56), some (.int v1), none, none] [] shp D (aQi shp K) := by
    intro v1 D h
    unfold J_X7_numberHere_30 at h
    refine aw_aload_n (n := 31) (i := 0) dX7_numberHere_30 rfl rfl rfl ?_
    refine aw_iconst (n := 32) (v := 2) dX7_numberHere_31 rfl (by decide) ?_
    refine aw_cVv (M := M_X7_numberHere) (n := 35) (As := [.int 2]) (rest := []) hG.1 lk_RX7_124 rfl rfl (sF_56 hS) (c_X7_fail hG hS (h := Ok.bind h)) (by decide) (Nat.le_of_ble_eq_true rfl) (by decide) (by decide) dX7_numberHere_32 rfl (fun D_3 h => ?_)
    refine aw_iload_n (n := 36) (i := 1) dX7_numberHere_35 rfl rfl rfl ?_
    exact aw_iret rfl (by decide) (by decide) dX7_numberHere_36 ⟨_, rfl, rfl, (Ok.dn h :)⟩
  refine aw_aload_n (n := 1) (i := 0) dX7_numberHere_0 rfl rfl rfl ?_
  refine aw_getI (n := 4) (j := 3) hG.1 fl_RX7_49 (sF_56 hS) rfl dX7_numberHere_1 rfl ?_
  refine aw_iconst (n := 5) (v := 2) dX7_numberHere_4 rfl (by decide) ?_
  refine aw_icmp_eq (n := 8) (tgt := 15) dX7_numberHere_5 rfl (by decide) (fun c => ?_) (fun c => ?_)
  · replace h := Ok.ift h c
    refine aw_aload_n (n := 16) (i := 0) dX7_numberHere_15 rfl rfl rfl ?_
    refine aw_cVi (M := M_X7_numberHere) (n := 19) (As := []) (rest := []) hG.1 lk_RX7_229 rfl rfl (sF_56 hS) (c_X7_value hG hS (h := Ok.bi h)) (by decide) (Nat.le_of_ble_eq_true rfl) (by decide) (by decide) dX7_numberHere_16 rfl (fun y_1 D_2 h => ?_)
    refine aw_istore_n (n := 20) (i := 3) (al' := [some (.ref 56), some (.int v1), some (.int v2), some (.int y_1)]) dX7_numberHere_19 rfl rfl rfl (by decide) rfl ?_
    refine aw_iload_n (n := 21) (i := 3) dX7_numberHere_20 rfl rfl rfl ?_
    refine aw_iload_n (n := 22) (i := 1) dX7_numberHere_21 rfl rfl rfl ?_
    refine aw_icmp_lt (n := 25) (tgt := 30) dX7_numberHere_22 rfl (by decide) (fun c => ?_) (fun c => ?_)
    · replace h := Ok.ift h c
      exact aw_le' (hJ_30 v1 D_2 h) ⟨rfl, ⟨rfl, trivial⟩⟩
    · replace h := Ok.iff h c
      refine aw_iload_n (n := 26) (i := 3) dX7_numberHere_25 rfl rfl rfl ?_
      refine aw_iload_n (n := 27) (i := 2) dX7_numberHere_26 rfl rfl rfl ?_
      refine aw_icmp_le (n := 30) (tgt := 37) dX7_numberHere_27 rfl (by decide) (fun c => ?_) (fun c => ?_)
      · replace h := Ok.ift h c
        refine aw_iload_n (n := 38) (i := 3) dX7_numberHere_37 rfl rfl rfl ?_
        exact aw_iret rfl (by decide) (by decide) dX7_numberHere_38 ⟨_, rfl, rfl, (Ok.dn h :)⟩
      · replace h := Ok.iff h c
        exact aw_le' (hJ_30 v1 D_2 h) ⟨rfl, ⟨rfl, trivial⟩⟩
  · replace h := Ok.iff h c
    refine aw_aload_n (n := 9) (i := 0) dX7_numberHere_8 rfl rfl rfl ?_
    refine aw_iconst (n := 10) (v := 1) dX7_numberHere_9 rfl (by decide) ?_
    refine aw_cVv (M := M_X7_numberHere) (n := 13) (As := [.int 1]) (rest := []) hG.1 lk_RX7_124 rfl rfl (sF_56 hS) (c_X7_fail hG hS (h := Ok.bind h)) (by decide) (Nat.le_of_ble_eq_true rfl) (by decide) (by decide) dX7_numberHere_10 rfl (fun D_4 h => ?_)
    refine aw_iload_n (n := 14) (i := 1) dX7_numberHere_13 rfl rfl rfl ?_
    exact aw_iret rfl (by decide) (by decide) dX7_numberHere_14 ⟨_, rfl, rfl, (Ok.dn h :)⟩
theorem dX7_number_0 : decode cX7_number 0 = .ok (.aload_n 0, 1) := by decide +kernel
theorem dX7_number_1 : decode cX7_number 1 = .ok (.getfield 35, 3) := by decide +kernel
theorem dX7_number_4 : decode cX7_number 4 = .ok (.ifCond .eq 5, 3) := by decide +kernel
theorem dX7_number_7 : decode cX7_number 7 = .ok (.iload_n 1, 1) := by decide +kernel
theorem dX7_number_8 : decode cX7_number 8 = .ok (.ireturn, 1) := by decide +kernel
theorem dX7_number_9 : decode cX7_number 9 = .ok (.aload_n 0, 1) := by decide +kernel
theorem dX7_number_10 : decode cX7_number 10 = .ok (.invokevirtual 46, 3) := by decide +kernel
theorem dX7_number_13 : decode cX7_number 13 = .ok (.aload_n 0, 1) := by decide +kernel
theorem dX7_number_14 : decode cX7_number 14 = .ok (.iload_n 1, 1) := by decide +kernel
theorem dX7_number_15 : decode cX7_number 15 = .ok (.iload_n 2, 1) := by decide +kernel
theorem dX7_number_16 : decode cX7_number 16 = .ok (.invokevirtual 226, 3) := by decide +kernel
theorem dX7_number_19 : decode cX7_number 19 = .ok (.ireturn, 1) := by decide +kernel
def f_X7_number (v1 : Int32) (v2 : Int32) (D : aD) : Option (Int32 × aD) :=
  if gI D 56 7 = 0 then ((f_X7_take D).bind (fun D_1 => aBi (f_X7_numberHere v1 v2 D_1) (fun y_2 D_3 => some (y_2, D_3)))) else (some (v1, D))
set_option maxRecDepth 100000 in
set_option maxHeartbeats 800000 in
theorem c_X7_number {G : aG} (hG : gOK G) {shp : List aSh} (hS : aShp shp) {fr : Option Nat} {v1 : Int32} {v2 : Int32} {D : aD} {K : Int32 → aD → Prop} (h : Ok2 (f_X7_number v1 v2 D) K) : AC G (aRm 3 0 0) M_X7_number [.ref 56, .int v1, .int v2] fr shp D (aQi shp K) := by
  replace h := Ok2.ok h
  unfold f_X7_number at h
  refine AC.of (al := [some (.ref 56), some (.int v1), some (.int v2)]) (r := 0) (by decide) (Nat.le_of_ble_eq_true rfl) rfl ?_
  refine aw_aload_n (n := 1) (i := 0) dX7_number_0 rfl rfl rfl ?_
  refine aw_getI (n := 4) (j := 7) hG.1 fl_RX7_35 (sF_56 hS) rfl dX7_number_1 rfl ?_
  refine aw_if_eq (n := 7) (tgt := 9) dX7_number_4 rfl (by decide) (fun c => ?_) (fun c => ?_)
  · replace h := Ok.ift h c
    refine aw_aload_n (n := 10) (i := 0) dX7_number_9 rfl rfl rfl ?_
    refine aw_cVv (M := M_X7_number) (n := 13) (As := []) (rest := []) hG.1 lk_RX7_46 rfl rfl (sF_56 hS) (c_X7_take hG hS (h := Ok.bind h)) (by decide) (Nat.le_of_ble_eq_true rfl) (by decide) (by decide) dX7_number_10 rfl (fun D_1 h => ?_)
    refine aw_aload_n (n := 14) (i := 0) dX7_number_13 rfl rfl rfl ?_
    refine aw_iload_n (n := 15) (i := 1) dX7_number_14 rfl rfl rfl ?_
    refine aw_iload_n (n := 16) (i := 2) dX7_number_15 rfl rfl rfl ?_
    refine aw_cVi (M := M_X7_number) (n := 19) (As := [.int v1, .int v2]) (rest := []) hG.1 lk_RX7_226 rfl rfl (sF_56 hS) (c_X7_numberHere hG hS (h := Ok.bi h)) (by decide) (Nat.le_of_ble_eq_true rfl) (by decide) (by decide) dX7_number_16 rfl (fun y_2 D_3 h => ?_)
    exact aw_iret rfl (by decide) (by decide) dX7_number_19 ⟨_, rfl, rfl, (Ok.dn h :)⟩
  · replace h := Ok.iff h c
    refine aw_iload_n (n := 8) (i := 1) dX7_number_7 rfl rfl rfl ?_
    exact aw_iret rfl (by decide) (by decide) dX7_number_8 ⟨_, rfl, rfl, (Ok.dn h :)⟩
theorem dX7_readSetting_0 : decode cX7_readSetting 0 = .ok (.aload_n 0, 1) := by decide +kernel
theorem dX7_readSetting_1 : decode cX7_readSetting 1 = .ok (.ldc 95, 2) := by decide +kernel
theorem dX7_readSetting_3 : decode cX7_readSetting 3 = .ok (.invokevirtual 58, 3) := by decide +kernel
theorem dX7_readSetting_6 : decode cX7_readSetting 6 = .ok (.ifCond .eq 25, 3) := by decide +kernel
theorem dX7_readSetting_9 : decode cX7_readSetting 9 = .ok (.aload_n 0, 1) := by decide +kernel
theorem dX7_readSetting_10 : decode cX7_readSetting 10 = .ok (.iconst 1, 1) := by decide +kernel
theorem dX7_readSetting_11 : decode cX7_readSetting 11 = .ok (.invokevirtual 97, 3) := by decide +kernel
theorem dX7_readSetting_14 : decode cX7_readSetting 14 = .ok (.aload_n 0, 1) := by decide +kernel
theorem dX7_readSetting_15 : decode cX7_readSetting 15 = .ok (.getfield 15, 3) := by decide +kernel
theorem dX7_readSetting_18 : decode cX7_readSetting 18 = .ok (.aload_n 0, 1) := by decide +kernel
theorem dX7_readSetting_19 : decode cX7_readSetting 19 = .ok (.iconst 0, 1) := by decide +kernel
theorem dX7_readSetting_20 : decode cX7_readSetting 20 = .ok (.bipush 20, 2) := by decide +kernel
theorem dX7_readSetting_22 : decode cX7_readSetting 22 = .ok (.invokevirtual 101, 3) := by decide +kernel
theorem dX7_readSetting_25 : decode cX7_readSetting 25 = .ok (.putfield 104, 3) := by decide +kernel
theorem dX7_readSetting_28 : decode cX7_readSetting 28 = .ok (.goto 149, 3) := by decide +kernel
theorem dX7_readSetting_31 : decode cX7_readSetting 31 = .ok (.aload_n 0, 1) := by decide +kernel
theorem dX7_readSetting_32 : decode cX7_readSetting 32 = .ok (.ldc 106, 2) := by decide +kernel
theorem dX7_readSetting_34 : decode cX7_readSetting 34 = .ok (.invokevirtual 58, 3) := by decide +kernel
theorem dX7_readSetting_37 : decode cX7_readSetting 37 = .ok (.ifCond .eq 25, 3) := by decide +kernel
theorem dX7_readSetting_40 : decode cX7_readSetting 40 = .ok (.aload_n 0, 1) := by decide +kernel
theorem dX7_readSetting_41 : decode cX7_readSetting 41 = .ok (.iconst 2, 1) := by decide +kernel
theorem dX7_readSetting_42 : decode cX7_readSetting 42 = .ok (.invokevirtual 97, 3) := by decide +kernel
theorem dX7_readSetting_45 : decode cX7_readSetting 45 = .ok (.aload_n 0, 1) := by decide +kernel
theorem dX7_readSetting_46 : decode cX7_readSetting 46 = .ok (.getfield 15, 3) := by decide +kernel
theorem dX7_readSetting_49 : decode cX7_readSetting 49 = .ok (.aload_n 0, 1) := by decide +kernel
theorem dX7_readSetting_50 : decode cX7_readSetting 50 = .ok (.iconst 0, 1) := by decide +kernel
theorem dX7_readSetting_51 : decode cX7_readSetting 51 = .ok (.bipush 9, 2) := by decide +kernel
theorem dX7_readSetting_53 : decode cX7_readSetting 53 = .ok (.invokevirtual 101, 3) := by decide +kernel
theorem dX7_readSetting_56 : decode cX7_readSetting 56 = .ok (.putfield 108, 3) := by decide +kernel
theorem dX7_readSetting_59 : decode cX7_readSetting 59 = .ok (.goto 118, 3) := by decide +kernel
theorem dX7_readSetting_62 : decode cX7_readSetting 62 = .ok (.aload_n 0, 1) := by decide +kernel
theorem dX7_readSetting_63 : decode cX7_readSetting 63 = .ok (.ldc 110, 2) := by decide +kernel
theorem dX7_readSetting_65 : decode cX7_readSetting 65 = .ok (.invokevirtual 58, 3) := by decide +kernel
theorem dX7_readSetting_68 : decode cX7_readSetting 68 = .ok (.ifCond .eq 25, 3) := by decide +kernel
theorem dX7_readSetting_71 : decode cX7_readSetting 71 = .ok (.aload_n 0, 1) := by decide +kernel
theorem dX7_readSetting_72 : decode cX7_readSetting 72 = .ok (.iconst 4, 1) := by decide +kernel
theorem dX7_readSetting_73 : decode cX7_readSetting 73 = .ok (.invokevirtual 97, 3) := by decide +kernel
theorem dX7_readSetting_76 : decode cX7_readSetting 76 = .ok (.aload_n 0, 1) := by decide +kernel
theorem dX7_readSetting_77 : decode cX7_readSetting 77 = .ok (.getfield 15, 3) := by decide +kernel
theorem dX7_readSetting_80 : decode cX7_readSetting 80 = .ok (.aload_n 0, 1) := by decide +kernel
theorem dX7_readSetting_81 : decode cX7_readSetting 81 = .ok (.iconst 0, 1) := by decide +kernel
theorem dX7_readSetting_82 : decode cX7_readSetting 82 = .ok (.bipush 14, 2) := by decide +kernel
theorem dX7_readSetting_84 : decode cX7_readSetting 84 = .ok (.invokevirtual 101, 3) := by decide +kernel
theorem dX7_readSetting_87 : decode cX7_readSetting 87 = .ok (.putfield 112, 3) := by decide +kernel
theorem dX7_readSetting_90 : decode cX7_readSetting 90 = .ok (.goto 87, 3) := by decide +kernel
theorem dX7_readSetting_93 : decode cX7_readSetting 93 = .ok (.aload_n 0, 1) := by decide +kernel
theorem dX7_readSetting_94 : decode cX7_readSetting 94 = .ok (.ldc 114, 2) := by decide +kernel
theorem dX7_readSetting_96 : decode cX7_readSetting 96 = .ok (.invokevirtual 58, 3) := by decide +kernel
theorem dX7_readSetting_99 : decode cX7_readSetting 99 = .ok (.ifCond .eq 26, 3) := by decide +kernel
theorem dX7_readSetting_102 : decode cX7_readSetting 102 = .ok (.aload_n 0, 1) := by decide +kernel
theorem dX7_readSetting_103 : decode cX7_readSetting 103 = .ok (.bipush 8, 2) := by decide +kernel
theorem dX7_readSetting_105 : decode cX7_readSetting 105 = .ok (.invokevirtual 97, 3) := by decide +kernel
theorem dX7_readSetting_108 : decode cX7_readSetting 108 = .ok (.aload_n 0, 1) := by decide +kernel
theorem dX7_readSetting_109 : decode cX7_readSetting 109 = .ok (.getfield 15, 3) := by decide +kernel
theorem dX7_readSetting_112 : decode cX7_readSetting 112 = .ok (.aload_n 0, 1) := by decide +kernel
theorem dX7_readSetting_113 : decode cX7_readSetting 113 = .ok (.iconst 0, 1) := by decide +kernel
theorem dX7_readSetting_114 : decode cX7_readSetting 114 = .ok (.bipush 99, 2) := by decide +kernel
theorem dX7_readSetting_116 : decode cX7_readSetting 116 = .ok (.invokevirtual 101, 3) := by decide +kernel
theorem dX7_readSetting_119 : decode cX7_readSetting 119 = .ok (.putfield 116, 3) := by decide +kernel
theorem dX7_readSetting_122 : decode cX7_readSetting 122 = .ok (.goto 55, 3) := by decide +kernel
theorem dX7_readSetting_125 : decode cX7_readSetting 125 = .ok (.aload_n 0, 1) := by decide +kernel
theorem dX7_readSetting_126 : decode cX7_readSetting 126 = .ok (.ldc 118, 2) := by decide +kernel
theorem dX7_readSetting_128 : decode cX7_readSetting 128 = .ok (.invokevirtual 58, 3) := by decide +kernel
theorem dX7_readSetting_131 : decode cX7_readSetting 131 = .ok (.ifCond .eq 41, 3) := by decide +kernel
theorem dX7_readSetting_134 : decode cX7_readSetting 134 = .ok (.aload_n 0, 1) := by decide +kernel
theorem dX7_readSetting_135 : decode cX7_readSetting 135 = .ok (.bipush 16, 2) := by decide +kernel
theorem dX7_readSetting_137 : decode cX7_readSetting 137 = .ok (.invokevirtual 97, 3) := by decide +kernel
theorem dX7_readSetting_140 : decode cX7_readSetting 140 = .ok (.iconst 0, 1) := by decide +kernel
theorem dX7_readSetting_141 : decode cX7_readSetting 141 = .ok (.istore_n 1, 1) := by decide +kernel
theorem dX7_readSetting_142 : decode cX7_readSetting 142 = .ok (.iload_n 1, 1) := by decide +kernel
theorem dX7_readSetting_143 : decode cX7_readSetting 143 = .ok (.iconst 5, 1) := by decide +kernel
theorem dX7_readSetting_144 : decode cX7_readSetting 144 = .ok (.if_icmp .ge 25, 3) := by decide +kernel
theorem dX7_readSetting_147 : decode cX7_readSetting 147 = .ok (.aload_n 0, 1) := by decide +kernel
theorem dX7_readSetting_148 : decode cX7_readSetting 148 = .ok (.getfield 15, 3) := by decide +kernel
theorem dX7_readSetting_151 : decode cX7_readSetting 151 = .ok (.getfield 120, 3) := by decide +kernel
theorem dX7_readSetting_154 : decode cX7_readSetting 154 = .ok (.iload_n 1, 1) := by decide +kernel
theorem dX7_readSetting_155 : decode cX7_readSetting 155 = .ok (.aload_n 0, 1) := by decide +kernel
theorem dX7_readSetting_156 : decode cX7_readSetting 156 = .ok (.iconst 0, 1) := by decide +kernel
theorem dX7_readSetting_157 : decode cX7_readSetting 157 = .ok (.bipush 99, 2) := by decide +kernel
theorem dX7_readSetting_159 : decode cX7_readSetting 159 = .ok (.invokevirtual 101, 3) := by decide +kernel
theorem dX7_readSetting_162 : decode cX7_readSetting 162 = .ok (.iastore, 1) := by decide +kernel
theorem dX7_readSetting_163 : decode cX7_readSetting 163 = .ok (.iinc 1 1, 3) := by decide +kernel
theorem dX7_readSetting_166 : decode cX7_readSetting 166 = .ok (.goto (-24), 3) := by decide +kernel
theorem dX7_readSetting_169 : decode cX7_readSetting 169 = .ok (.goto 8, 3) := by decide +kernel
theorem dX7_readSetting_172 : decode cX7_readSetting 172 = .ok (.aload_n 0, 1) := by decide +kernel
theorem dX7_readSetting_173 : decode cX7_readSetting 173 = .ok (.iconst 1, 1) := by decide +kernel
theorem dX7_readSetting_174 : decode cX7_readSetting 174 = .ok (.invokevirtual 124, 3) := by decide +kernel
theorem dX7_readSetting_177 : decode cX7_readSetting 177 = .ok (.aload_n 0, 1) := by decide +kernel
theorem dX7_readSetting_178 : decode cX7_readSetting 178 = .ok (.invokevirtual 127, 3) := by decide +kernel
theorem dX7_readSetting_181 : decode cX7_readSetting 181 = .ok (.return_, 1) := by decide +kernel
def J_X7_readSetting_169 (D : aD) : Option (aD) :=
  (f_X7_close D).bind (fun D_14 => some D_14)
def B_X7_readSetting_142 (v1 : Int32) (D : aD) : Option ((Int32 × aD) ⊕ ((aD))) :=
  if 5 ≤ v1 then (some (.inr D)) else (aBi (f_X7_number 0 99 D) (fun y_15 D_16 => aGd (aIn v1 5) (aLet (pI D_16 33 v1.toNatClampNeg y_15) (fun D_18 => aLet (v1 + 1) (fun v1_19 => some (.inl (v1_19, D_18)))))))
def J_X7_readSetting_142 (v1 : Int32) (D : aD) : Option (aD) :=
  (aLp (fun s => B_X7_readSetting_142 s.1 s.2) (v1, D)).bind (fun r => J_X7_readSetting_169 r)
def f_X7_readSetting (D : aD) : Option (aD) :=
  aBi (f_X7_isWord 0 D) (fun y_1 D_2 => if y_1 = 0 then (aBi (f_X7_isWord 1 D_2) (fun y_3 D_4 => if y_3 = 0 then (aBi (f_X7_isWord 2 D_4) (fun y_5 D_6 => if y_5 = 0 then (aBi (f_X7_isWord 3 D_6) (fun y_7 D_8 => if y_7 = 0 then (aBi (f_X7_isWord 4 D_8) (fun y_9 D_10 => if y_9 = 0 then ((f_X7_fail 1 D_10).bind (fun D_11 => (f_X7_close D_11).bind (fun D_12 => some D_12))) else ((f_X7_once 16 D_10).bind (fun D_13 => J_X7_readSetting_142 0 D_13)))) else ((f_X7_once 8 D_8).bind (fun D_20 => aBi (f_X7_number 0 99 D_20) (fun y_21 D_22 => aLet (pI D_22 21 9 y_21) (fun D_23 => (f_X7_close D_23).bind (fun D_24 => some D_24))))))) else ((f_X7_once 4 D_6).bind (fun D_25 => aBi (f_X7_number 0 14 D_25) (fun y_26 D_27 => aLet (pI D_27 21 8 y_26) (fun D_28 => (f_X7_close D_28).bind (fun D_29 => some D_29))))))) else ((f_X7_once 2 D_4).bind (fun D_30 => aBi (f_X7_number 0 9 D_30) (fun y_31 D_32 => aLet (pI D_32 21 7 y_31) (fun D_33 => (f_X7_close D_33).bind (fun D_34 => some D_34))))))) else ((f_X7_once 1 D_2).bind (fun D_35 => aBi (f_X7_number 0 20 D_35) (fun y_36 D_37 => aLet (pI D_37 21 6 y_36) (fun D_38 => (f_X7_close D_38).bind (fun D_39 => some D_39))))))
set_option maxRecDepth 100000 in
set_option maxHeartbeats 800000 in
theorem c_X7_readSetting {G : aG} (hG : gOK G) {shp : List aSh} (hS : aShp shp) {fr : Option Nat} {D : aD} {K : aD → Prop} (h : Ok (f_X7_readSetting D) K) : AC G (aRm 9 0 0) M_X7_readSetting [.ref 56] fr shp D (aQv shp K) := by
  unfold f_X7_readSetting at h
  refine AC.of (al := [some (.ref 56), none]) (r := 1) (by decide) (Nat.le_of_ble_eq_true rfl) rfl ?_
  have hJ_169 : ∀ (D : aD), Ok (J_X7_readSetting_169 D) K → AW G (aRm 9 0 0) M_X7_readSetting fr 0 0 169 [some (.ref 56), none] [] shp D (aQv shp K) := by
    intro D h
    unfold J_X7_readSetting_169 at h
    refine aw_goto (tgt := 177) dX7_readSetting_169 (by decide) ?_
    refine aw_aload_n (n := 178) (i := 0) dX7_readSetting_177 rfl rfl rfl ?_
    refine aw_cVv (M := M_X7_readSetting) (n := 181) (As := []) (rest := []) hG.1 lk_RX7_127 rfl rfl (sF_56 hS) (c_X7_close hG hS (h := Ok.bind h)) (by decide) (Nat.le_of_ble_eq_true rfl) (by decide) (by decide) dX7_readSetting_178 rfl (fun D_14 h => ?_)
    exact aw_vret rfl (by decide) (by decide) dX7_readSetting_181 ⟨rfl, rfl, (Ok.dn h :)⟩
  have hJ_142 : ∀ (v1 : Int32) (D : aD), Ok (J_X7_readSetting_142 v1 D) K → AW G (aRm 9 0 0) M_X7_readSetting fr 0 0 142 [some (.ref 56), some (.int v1)] [] shp D (aQv shp K) := by
    intro v1 D h
    unfold J_X7_readSetting_142 at h
    refine Ok.lp (P := fun s => AW G (aRm 9 0 0) M_X7_readSetting fr 0 0 142 [some (.ref 56), some (.int (s.1))] [] shp s.2 (aQv shp K)) (fun s Kb142 hL142 hR142 h => ?_) (v1, D) (Ok.bind h)
    obtain ⟨v1, D⟩ := s
    replace h : Ok (B_X7_readSetting_142 v1 D) Kb142 := h
    unfold B_X7_readSetting_142 at h
    refine aw_iload_n (n := 143) (i := 1) dX7_readSetting_142 rfl rfl rfl ?_
    refine aw_iconst (n := 144) (v := 5) dX7_readSetting_143 rfl (by decide) ?_
    refine aw_icmp_ge (n := 147) (tgt := 169) dX7_readSetting_144 rfl (by decide) (fun c => ?_) (fun c => ?_)
    · replace h := Ok.ift h c
      exact aw_le' (hJ_169 D (hR142 D (Ok.dn h :))) ⟨rfl, trivial⟩
    · replace h := Ok.iff h c
      refine aw_aload_n (n := 148) (i := 0) dX7_readSetting_147 rfl rfl rfl ?_
      refine aw_getR (n := 151) (j := 1) (r := 21) hG.1 fl_RX7_15 (sF_56 hS) rfl dX7_readSetting_148 rfl ?_
      refine aw_getR (n := 154) (j := 16) (r := 33) hG.1 fl_RX7_120 (sF_21 hS) rfl dX7_readSetting_151 rfl ?_
      refine aw_iload_n (n := 155) (i := 1) dX7_readSetting_154 rfl rfl rfl ?_
      refine aw_aload_n (n := 156) (i := 0) dX7_readSetting_155 rfl rfl rfl ?_
      refine aw_iconst (n := 157) (v := 0) dX7_readSetting_156 rfl (by decide) ?_
      refine aw_bipush (n := 159) (v := 99) dX7_readSetting_157 rfl (by decide) ?_
      refine aw_cVi (M := M_X7_readSetting) (n := 162) (As := [.int 0, .int 99]) (rest := [.int v1, .ref 33]) hG.1 lk_RX7_101 rfl rfl (sF_56 hS) (c_X7_number hG hS (h := Ok.bi h)) (by decide) (Nat.le_of_ble_eq_true rfl) (by decide) (by decide) dX7_readSetting_159 rfl (fun y_15 D_16 h => ?_)
      obtain ⟨g_17, h⟩ := Ok.gd h
      obtain ⟨D_18, e_D_18, h⟩ := Ok.let_ h
      refine aw_iastore (n := 163) hG.1 (sF_33 hS) (aIn_in g_17) e_D_18 dX7_readSetting_162 rfl ?_
      obtain ⟨v1_19, e_v1_19, h⟩ := Ok.let_ h
      refine aw_iinc (n := 166) (al' := [some (.ref 56), some (.int v1_19)]) dX7_readSetting_163 rfl rfl e_v1_19 (by decide) rfl ?_
      refine aw_goto (tgt := 142) dX7_readSetting_166 (by decide) ?_
      exact aw_le' (hL142 (v1_19, D_18) (Ok.dn h :)) ⟨rfl, ⟨rfl, trivial⟩⟩
  refine aw_aload_n (n := 1) (i := 0) dX7_readSetting_0 rfl rfl rfl ?_
  refine aw_ldcS (M := M_X7_readSetting) (n := 3) (sk := 10000 + 0) (gS_RX7_95 hG) dX7_readSetting_1 rfl ?_
  refine aw_cVi (M := M_X7_readSetting) (n := 6) (As := [.ref (10000 + 0)]) (rest := []) hG.1 lk_RX7_58 rfl rfl (sF_56 hS) (c_X7_isWord hG hS (h := Ok.bi h) (by decide)) (by decide) (Nat.le_of_ble_eq_true rfl) (by decide) (by decide) dX7_readSetting_3 rfl (fun y_1 D_2 h => ?_)
  refine aw_if_eq (n := 9) (tgt := 31) dX7_readSetting_6 rfl (by decide) (fun c => ?_) (fun c => ?_)
  · replace h := Ok.ift h c
    refine aw_aload_n (n := 32) (i := 0) dX7_readSetting_31 rfl rfl rfl ?_
    refine aw_ldcS (M := M_X7_readSetting) (n := 34) (sk := 10000 + 1) (gS_RX7_106 hG) dX7_readSetting_32 rfl ?_
    refine aw_cVi (M := M_X7_readSetting) (n := 37) (As := [.ref (10000 + 1)]) (rest := []) hG.1 lk_RX7_58 rfl rfl (sF_56 hS) (c_X7_isWord hG hS (h := Ok.bi h) (by decide)) (by decide) (Nat.le_of_ble_eq_true rfl) (by decide) (by decide) dX7_readSetting_34 rfl (fun y_3 D_4 h => ?_)
    refine aw_if_eq (n := 40) (tgt := 62) dX7_readSetting_37 rfl (by decide) (fun c => ?_) (fun c => ?_)
    · replace h := Ok.ift h c
      refine aw_aload_n (n := 63) (i := 0) dX7_readSetting_62 rfl rfl rfl ?_
      refine aw_ldcS (M := M_X7_readSetting) (n := 65) (sk := 10000 + 2) (gS_RX7_110 hG) dX7_readSetting_63 rfl ?_
      refine aw_cVi (M := M_X7_readSetting) (n := 68) (As := [.ref (10000 + 2)]) (rest := []) hG.1 lk_RX7_58 rfl rfl (sF_56 hS) (c_X7_isWord hG hS (h := Ok.bi h) (by decide)) (by decide) (Nat.le_of_ble_eq_true rfl) (by decide) (by decide) dX7_readSetting_65 rfl (fun y_5 D_6 h => ?_)
      refine aw_if_eq (n := 71) (tgt := 93) dX7_readSetting_68 rfl (by decide) (fun c => ?_) (fun c => ?_)
      · replace h := Ok.ift h c
        refine aw_aload_n (n := 94) (i := 0) dX7_readSetting_93 rfl rfl rfl ?_
        refine aw_ldcS (M := M_X7_readSetting) (n := 96) (sk := 10000 + 3) (gS_RX7_114 hG) dX7_readSetting_94 rfl ?_
        refine aw_cVi (M := M_X7_readSetting) (n := 99) (As := [.ref (10000 + 3)]) (rest := []) hG.1 lk_RX7_58 rfl rfl (sF_56 hS) (c_X7_isWord hG hS (h := Ok.bi h) (by decide)) (by decide) (Nat.le_of_ble_eq_true rfl) (by decide) (by decide) dX7_readSetting_96 rfl (fun y_7 D_8 h => ?_)
        refine aw_if_eq (n := 102) (tgt := 125) dX7_readSetting_99 rfl (by decide) (fun c => ?_) (fun c => ?_)
        · replace h := Ok.ift h c
          refine aw_aload_n (n := 126) (i := 0) dX7_readSetting_125 rfl rfl rfl ?_
          refine aw_ldcS (M := M_X7_readSetting) (n := 128) (sk := 10000 + 4) (gS_RX7_118 hG) dX7_readSetting_126 rfl ?_
          refine aw_cVi (M := M_X7_readSetting) (n := 131) (As := [.ref (10000 + 4)]) (rest := []) hG.1 lk_RX7_58 rfl rfl (sF_56 hS) (c_X7_isWord hG hS (h := Ok.bi h) (by decide)) (by decide) (Nat.le_of_ble_eq_true rfl) (by decide) (by decide) dX7_readSetting_128 rfl (fun y_9 D_10 h => ?_)
          refine aw_if_eq (n := 134) (tgt := 172) dX7_readSetting_131 rfl (by decide) (fun c => ?_) (fun c => ?_)
          · replace h := Ok.ift h c
            refine aw_aload_n (n := 173) (i := 0) dX7_readSetting_172 rfl rfl rfl ?_
            refine aw_iconst (n := 174) (v := 1) dX7_readSetting_173 rfl (by decide) ?_
            refine aw_cVv (M := M_X7_readSetting) (n := 177) (As := [.int 1]) (rest := []) hG.1 lk_RX7_124 rfl rfl (sF_56 hS) (c_X7_fail hG hS (h := Ok.bind h)) (by decide) (Nat.le_of_ble_eq_true rfl) (by decide) (by decide) dX7_readSetting_174 rfl (fun D_11 h => ?_)
            refine aw_aload_n (n := 178) (i := 0) dX7_readSetting_177 rfl rfl rfl ?_
            refine aw_cVv (M := M_X7_readSetting) (n := 181) (As := []) (rest := []) hG.1 lk_RX7_127 rfl rfl (sF_56 hS) (c_X7_close hG hS (h := Ok.bind h)) (by decide) (Nat.le_of_ble_eq_true rfl) (by decide) (by decide) dX7_readSetting_178 rfl (fun D_12 h => ?_)
            exact aw_vret rfl (by decide) (by decide) dX7_readSetting_181 ⟨rfl, rfl, (Ok.dn h :)⟩
          · replace h := Ok.iff h c
            refine aw_aload_n (n := 135) (i := 0) dX7_readSetting_134 rfl rfl rfl ?_
            refine aw_bipush (n := 137) (v := 16) dX7_readSetting_135 rfl (by decide) ?_
            refine aw_cVv (M := M_X7_readSetting) (n := 140) (As := [.int 16]) (rest := []) hG.1 lk_RX7_97 rfl rfl (sF_56 hS) (c_X7_once hG hS (h := Ok.bind h)) (by decide) (Nat.le_of_ble_eq_true rfl) (by decide) (by decide) dX7_readSetting_137 rfl (fun D_13 h => ?_)
            refine aw_iconst (n := 141) (v := 0) dX7_readSetting_140 rfl (by decide) ?_
            refine aw_istore_n (n := 142) (i := 1) (al' := [some (.ref 56), some (.int 0)]) dX7_readSetting_141 rfl rfl rfl (by decide) rfl ?_
            exact aw_le' (hJ_142 0 D_13 h) ⟨rfl, ⟨rfl, trivial⟩⟩
        · replace h := Ok.iff h c
          refine aw_aload_n (n := 103) (i := 0) dX7_readSetting_102 rfl rfl rfl ?_
          refine aw_bipush (n := 105) (v := 8) dX7_readSetting_103 rfl (by decide) ?_
          refine aw_cVv (M := M_X7_readSetting) (n := 108) (As := [.int 8]) (rest := []) hG.1 lk_RX7_97 rfl rfl (sF_56 hS) (c_X7_once hG hS (h := Ok.bind h)) (by decide) (Nat.le_of_ble_eq_true rfl) (by decide) (by decide) dX7_readSetting_105 rfl (fun D_20 h => ?_)
          refine aw_aload_n (n := 109) (i := 0) dX7_readSetting_108 rfl rfl rfl ?_
          refine aw_getR (n := 112) (j := 1) (r := 21) hG.1 fl_RX7_15 (sF_56 hS) rfl dX7_readSetting_109 rfl ?_
          refine aw_aload_n (n := 113) (i := 0) dX7_readSetting_112 rfl rfl rfl ?_
          refine aw_iconst (n := 114) (v := 0) dX7_readSetting_113 rfl (by decide) ?_
          refine aw_bipush (n := 116) (v := 99) dX7_readSetting_114 rfl (by decide) ?_
          refine aw_cVi (M := M_X7_readSetting) (n := 119) (As := [.int 0, .int 99]) (rest := [.ref 21]) hG.1 lk_RX7_101 rfl rfl (sF_56 hS) (c_X7_number hG hS (h := Ok.bi h)) (by decide) (Nat.le_of_ble_eq_true rfl) (by decide) (by decide) dX7_readSetting_116 rfl (fun y_21 D_22 h => ?_)
          obtain ⟨D_23, e_D_23, h⟩ := Ok.let_ h
          refine aw_putI (n := 122) (j := 9) hG.1 fl_RX7_116 (sF_21 hS) rfl e_D_23 dX7_readSetting_119 rfl ?_
          refine aw_goto (tgt := 177) dX7_readSetting_122 (by decide) ?_
          refine aw_aload_n (n := 178) (i := 0) dX7_readSetting_177 rfl rfl rfl ?_
          refine aw_cVv (M := M_X7_readSetting) (n := 181) (As := []) (rest := []) hG.1 lk_RX7_127 rfl rfl (sF_56 hS) (c_X7_close hG hS (h := Ok.bind h)) (by decide) (Nat.le_of_ble_eq_true rfl) (by decide) (by decide) dX7_readSetting_178 rfl (fun D_24 h => ?_)
          exact aw_vret rfl (by decide) (by decide) dX7_readSetting_181 ⟨rfl, rfl, (Ok.dn h :)⟩
      · replace h := Ok.iff h c
        refine aw_aload_n (n := 72) (i := 0) dX7_readSetting_71 rfl rfl rfl ?_
        refine aw_iconst (n := 73) (v := 4) dX7_readSetting_72 rfl (by decide) ?_
        refine aw_cVv (M := M_X7_readSetting) (n := 76) (As := [.int 4]) (rest := []) hG.1 lk_RX7_97 rfl rfl (sF_56 hS) (c_X7_once hG hS (h := Ok.bind h)) (by decide) (Nat.le_of_ble_eq_true rfl) (by decide) (by decide) dX7_readSetting_73 rfl (fun D_25 h => ?_)
        refine aw_aload_n (n := 77) (i := 0) dX7_readSetting_76 rfl rfl rfl ?_
        refine aw_getR (n := 80) (j := 1) (r := 21) hG.1 fl_RX7_15 (sF_56 hS) rfl dX7_readSetting_77 rfl ?_
        refine aw_aload_n (n := 81) (i := 0) dX7_readSetting_80 rfl rfl rfl ?_
        refine aw_iconst (n := 82) (v := 0) dX7_readSetting_81 rfl (by decide) ?_
        refine aw_bipush (n := 84) (v := 14) dX7_readSetting_82 rfl (by decide) ?_
        refine aw_cVi (M := M_X7_readSetting) (n := 87) (As := [.int 0, .int 14]) (rest := [.ref 21]) hG.1 lk_RX7_101 rfl rfl (sF_56 hS) (c_X7_number hG hS (h := Ok.bi h)) (by decide) (Nat.le_of_ble_eq_true rfl) (by decide) (by decide) dX7_readSetting_84 rfl (fun y_26 D_27 h => ?_)
        obtain ⟨D_28, e_D_28, h⟩ := Ok.let_ h
        refine aw_putI (n := 90) (j := 8) hG.1 fl_RX7_112 (sF_21 hS) rfl e_D_28 dX7_readSetting_87 rfl ?_
        refine aw_goto (tgt := 177) dX7_readSetting_90 (by decide) ?_
        refine aw_aload_n (n := 178) (i := 0) dX7_readSetting_177 rfl rfl rfl ?_
        refine aw_cVv (M := M_X7_readSetting) (n := 181) (As := []) (rest := []) hG.1 lk_RX7_127 rfl rfl (sF_56 hS) (c_X7_close hG hS (h := Ok.bind h)) (by decide) (Nat.le_of_ble_eq_true rfl) (by decide) (by decide) dX7_readSetting_178 rfl (fun D_29 h => ?_)
        exact aw_vret rfl (by decide) (by decide) dX7_readSetting_181 ⟨rfl, rfl, (Ok.dn h :)⟩
    · replace h := Ok.iff h c
      refine aw_aload_n (n := 41) (i := 0) dX7_readSetting_40 rfl rfl rfl ?_
      refine aw_iconst (n := 42) (v := 2) dX7_readSetting_41 rfl (by decide) ?_
      refine aw_cVv (M := M_X7_readSetting) (n := 45) (As := [.int 2]) (rest := []) hG.1 lk_RX7_97 rfl rfl (sF_56 hS) (c_X7_once hG hS (h := Ok.bind h)) (by decide) (Nat.le_of_ble_eq_true rfl) (by decide) (by decide) dX7_readSetting_42 rfl (fun D_30 h => ?_)
      refine aw_aload_n (n := 46) (i := 0) dX7_readSetting_45 rfl rfl rfl ?_
      refine aw_getR (n := 49) (j := 1) (r := 21) hG.1 fl_RX7_15 (sF_56 hS) rfl dX7_readSetting_46 rfl ?_
      refine aw_aload_n (n := 50) (i := 0) dX7_readSetting_49 rfl rfl rfl ?_
      refine aw_iconst (n := 51) (v := 0) dX7_readSetting_50 rfl (by decide) ?_
      refine aw_bipush (n := 53) (v := 9) dX7_readSetting_51 rfl (by decide) ?_
      refine aw_cVi (M := M_X7_readSetting) (n := 56) (As := [.int 0, .int 9]) (rest := [.ref 21]) hG.1 lk_RX7_101 rfl rfl (sF_56 hS) (c_X7_number hG hS (h := Ok.bi h)) (by decide) (Nat.le_of_ble_eq_true rfl) (by decide) (by decide) dX7_readSetting_53 rfl (fun y_31 D_32 h => ?_)
      obtain ⟨D_33, e_D_33, h⟩ := Ok.let_ h
      refine aw_putI (n := 59) (j := 7) hG.1 fl_RX7_108 (sF_21 hS) rfl e_D_33 dX7_readSetting_56 rfl ?_
      refine aw_goto (tgt := 177) dX7_readSetting_59 (by decide) ?_
      refine aw_aload_n (n := 178) (i := 0) dX7_readSetting_177 rfl rfl rfl ?_
      refine aw_cVv (M := M_X7_readSetting) (n := 181) (As := []) (rest := []) hG.1 lk_RX7_127 rfl rfl (sF_56 hS) (c_X7_close hG hS (h := Ok.bind h)) (by decide) (Nat.le_of_ble_eq_true rfl) (by decide) (by decide) dX7_readSetting_178 rfl (fun D_34 h => ?_)
      exact aw_vret rfl (by decide) (by decide) dX7_readSetting_181 ⟨rfl, rfl, (Ok.dn h :)⟩
  · replace h := Ok.iff h c
    refine aw_aload_n (n := 10) (i := 0) dX7_readSetting_9 rfl rfl rfl ?_
    refine aw_iconst (n := 11) (v := 1) dX7_readSetting_10 rfl (by decide) ?_
    refine aw_cVv (M := M_X7_readSetting) (n := 14) (As := [.int 1]) (rest := []) hG.1 lk_RX7_97 rfl rfl (sF_56 hS) (c_X7_once hG hS (h := Ok.bind h)) (by decide) (Nat.le_of_ble_eq_true rfl) (by decide) (by decide) dX7_readSetting_11 rfl (fun D_35 h => ?_)
    refine aw_aload_n (n := 15) (i := 0) dX7_readSetting_14 rfl rfl rfl ?_
    refine aw_getR (n := 18) (j := 1) (r := 21) hG.1 fl_RX7_15 (sF_56 hS) rfl dX7_readSetting_15 rfl ?_
    refine aw_aload_n (n := 19) (i := 0) dX7_readSetting_18 rfl rfl rfl ?_
    refine aw_iconst (n := 20) (v := 0) dX7_readSetting_19 rfl (by decide) ?_
    refine aw_bipush (n := 22) (v := 20) dX7_readSetting_20 rfl (by decide) ?_
    refine aw_cVi (M := M_X7_readSetting) (n := 25) (As := [.int 0, .int 20]) (rest := [.ref 21]) hG.1 lk_RX7_101 rfl rfl (sF_56 hS) (c_X7_number hG hS (h := Ok.bi h)) (by decide) (Nat.le_of_ble_eq_true rfl) (by decide) (by decide) dX7_readSetting_22 rfl (fun y_36 D_37 h => ?_)
    obtain ⟨D_38, e_D_38, h⟩ := Ok.let_ h
    refine aw_putI (n := 28) (j := 6) hG.1 fl_RX7_104 (sF_21 hS) rfl e_D_38 dX7_readSetting_25 rfl ?_
    refine aw_goto (tgt := 177) dX7_readSetting_28 (by decide) ?_
    refine aw_aload_n (n := 178) (i := 0) dX7_readSetting_177 rfl rfl rfl ?_
    refine aw_cVv (M := M_X7_readSetting) (n := 181) (As := []) (rest := []) hG.1 lk_RX7_127 rfl rfl (sF_56 hS) (c_X7_close hG hS (h := Ok.bind h)) (by decide) (Nat.le_of_ble_eq_true rfl) (by decide) (by decide) dX7_readSetting_178 rfl (fun D_39 h => ?_)
    exact aw_vret rfl (by decide) (by decide) dX7_readSetting_181 ⟨rfl, rfl, (Ok.dn h :)⟩
theorem dX7_known_0 : decode cX7_known 0 = .ok (.aload_n 0, 1) := by decide +kernel
theorem dX7_known_1 : decode cX7_known 1 = .ok (.getfield 35, 3) := by decide +kernel
theorem dX7_known_4 : decode cX7_known 4 = .ok (.ifCond .eq 5, 3) := by decide +kernel
theorem dX7_known_7 : decode cX7_known 7 = .ok (.iconst 0, 1) := by decide +kernel
theorem dX7_known_8 : decode cX7_known 8 = .ok (.ireturn, 1) := by decide +kernel
theorem dX7_known_9 : decode cX7_known 9 = .ok (.aload_n 0, 1) := by decide +kernel
theorem dX7_known_10 : decode cX7_known 10 = .ok (.invokevirtual 46, 3) := by decide +kernel
theorem dX7_known_13 : decode cX7_known 13 = .ok (.aload_n 0, 1) := by decide +kernel
theorem dX7_known_14 : decode cX7_known 14 = .ok (.iconst 0, 1) := by decide +kernel
theorem dX7_known_15 : decode cX7_known 15 = .ok (.sipush 9999, 3) := by decide +kernel
theorem dX7_known_18 : decode cX7_known 18 = .ok (.invokevirtual 226, 3) := by decide +kernel
theorem dX7_known_21 : decode cX7_known 21 = .ok (.istore_n 2, 1) := by decide +kernel
theorem dX7_known_22 : decode cX7_known 22 = .ok (.iload_n 2, 1) := by decide +kernel
theorem dX7_known_23 : decode cX7_known 23 = .ok (.iload_n 1, 1) := by decide +kernel
theorem dX7_known_24 : decode cX7_known 24 = .ok (.if_icmp .lt 10, 3) := by decide +kernel
theorem dX7_known_27 : decode cX7_known 27 = .ok (.aload_n 0, 1) := by decide +kernel
theorem dX7_known_28 : decode cX7_known 28 = .ok (.iconst 3, 1) := by decide +kernel
theorem dX7_known_29 : decode cX7_known 29 = .ok (.invokevirtual 124, 3) := by decide +kernel
theorem dX7_known_32 : decode cX7_known 32 = .ok (.iconst 0, 1) := by decide +kernel
theorem dX7_known_33 : decode cX7_known 33 = .ok (.ireturn, 1) := by decide +kernel
theorem dX7_known_34 : decode cX7_known 34 = .ok (.iload_n 2, 1) := by decide +kernel
theorem dX7_known_35 : decode cX7_known 35 = .ok (.ireturn, 1) := by decide +kernel
def f_X7_known (v1 : Int32) (D : aD) : Option (Int32 × aD) :=
  if gI D 56 7 = 0 then ((f_X7_take D).bind (fun D_1 => aBi (f_X7_numberHere 0 9999 D_1) (fun y_2 D_3 => if y_2 < v1 then (some (y_2, D_3)) else ((f_X7_fail 3 D_3).bind (fun D_4 => some (0, D_4)))))) else (some (0, D))
set_option maxRecDepth 100000 in
set_option maxHeartbeats 800000 in
theorem c_X7_known {G : aG} (hG : gOK G) {shp : List aSh} (hS : aShp shp) {fr : Option Nat} {v1 : Int32} {D : aD} {K : Int32 → aD → Prop} (h : Ok2 (f_X7_known v1 D) K) : AC G (aRm 3 0 0) M_X7_known [.ref 56, .int v1] fr shp D (aQi shp K) := by
  replace h := Ok2.ok h
  unfold f_X7_known at h
  refine AC.of (al := [some (.ref 56), some (.int v1), none]) (r := 1) (by decide) (Nat.le_of_ble_eq_true rfl) rfl ?_
  refine aw_aload_n (n := 1) (i := 0) dX7_known_0 rfl rfl rfl ?_
  refine aw_getI (n := 4) (j := 7) hG.1 fl_RX7_35 (sF_56 hS) rfl dX7_known_1 rfl ?_
  refine aw_if_eq (n := 7) (tgt := 9) dX7_known_4 rfl (by decide) (fun c => ?_) (fun c => ?_)
  · replace h := Ok.ift h c
    refine aw_aload_n (n := 10) (i := 0) dX7_known_9 rfl rfl rfl ?_
    refine aw_cVv (M := M_X7_known) (n := 13) (As := []) (rest := []) hG.1 lk_RX7_46 rfl rfl (sF_56 hS) (c_X7_take hG hS (h := Ok.bind h)) (by decide) (Nat.le_of_ble_eq_true rfl) (by decide) (by decide) dX7_known_10 rfl (fun D_1 h => ?_)
    refine aw_aload_n (n := 14) (i := 0) dX7_known_13 rfl rfl rfl ?_
    refine aw_iconst (n := 15) (v := 0) dX7_known_14 rfl (by decide) ?_
    refine aw_sipush (n := 18) (v := 9999) dX7_known_15 rfl (by decide) ?_
    refine aw_cVi (M := M_X7_known) (n := 21) (As := [.int 0, .int 9999]) (rest := []) hG.1 lk_RX7_226 rfl rfl (sF_56 hS) (c_X7_numberHere hG hS (h := Ok.bi h)) (by decide) (Nat.le_of_ble_eq_true rfl) (by decide) (by decide) dX7_known_18 rfl (fun y_2 D_3 h => ?_)
    refine aw_istore_n (n := 22) (i := 2) (al' := [some (.ref 56), some (.int v1), some (.int y_2)]) dX7_known_21 rfl rfl rfl (by decide) rfl ?_
    refine aw_iload_n (n := 23) (i := 2) dX7_known_22 rfl rfl rfl ?_
    refine aw_iload_n (n := 24) (i := 1) dX7_known_23 rfl rfl rfl ?_
    refine aw_icmp_lt (n := 27) (tgt := 34) dX7_known_24 rfl (by decide) (fun c => ?_) (fun c => ?_)
    · replace h := Ok.ift h c
      refine aw_iload_n (n := 35) (i := 2) dX7_known_34 rfl rfl rfl ?_
      exact aw_iret rfl (by decide) (by decide) dX7_known_35 ⟨_, rfl, rfl, (Ok.dn h :)⟩
    · replace h := Ok.iff h c
      refine aw_aload_n (n := 28) (i := 0) dX7_known_27 rfl rfl rfl ?_
      refine aw_iconst (n := 29) (v := 3) dX7_known_28 rfl (by decide) ?_
      refine aw_cVv (M := M_X7_known) (n := 32) (As := [.int 3]) (rest := []) hG.1 lk_RX7_124 rfl rfl (sF_56 hS) (c_X7_fail hG hS (h := Ok.bind h)) (by decide) (Nat.le_of_ble_eq_true rfl) (by decide) (by decide) dX7_known_29 rfl (fun D_4 h => ?_)
      refine aw_iconst (n := 33) (v := 0) dX7_known_32 rfl (by decide) ?_
      exact aw_iret rfl (by decide) (by decide) dX7_known_33 ⟨_, rfl, rfl, (Ok.dn h :)⟩
  · replace h := Ok.iff h c
    refine aw_iconst (n := 8) (v := 0) dX7_known_7 rfl (by decide) ?_
    exact aw_iret rfl (by decide) (by decide) dX7_known_8 ⟨_, rfl, rfl, (Ok.dn h :)⟩
theorem dX7_readMask_0 : decode cX7_readMask 0 = .ok (.aload_n 0, 1) := by decide +kernel
theorem dX7_readMask_1 : decode cX7_readMask 1 = .ok (.aload_n 0, 1) := by decide +kernel
theorem dX7_readMask_2 : decode cX7_readMask 2 = .ok (.getfield 15, 3) := by decide +kernel
theorem dX7_readMask_5 : decode cX7_readMask 5 = .ok (.getfield 140, 3) := by decide +kernel
theorem dX7_readMask_8 : decode cX7_readMask 8 = .ok (.invokevirtual 183, 3) := by decide +kernel
theorem dX7_readMask_11 : decode cX7_readMask 11 = .ok (.istore_n 1, 1) := by decide +kernel
theorem dX7_readMask_12 : decode cX7_readMask 12 = .ok (.aload_n 0, 1) := by decide +kernel
theorem dX7_readMask_13 : decode cX7_readMask 13 = .ok (.aload_n 0, 1) := by decide +kernel
theorem dX7_readMask_14 : decode cX7_readMask 14 = .ok (.getfield 15, 3) := by decide +kernel
theorem dX7_readMask_17 : decode cX7_readMask 17 = .ok (.getfield 140, 3) := by decide +kernel
theorem dX7_readMask_20 : decode cX7_readMask 20 = .ok (.invokevirtual 183, 3) := by decide +kernel
theorem dX7_readMask_23 : decode cX7_readMask 23 = .ok (.istore_n 2, 1) := by decide +kernel
theorem dX7_readMask_24 : decode cX7_readMask 24 = .ok (.iload_n 1, 1) := by decide +kernel
theorem dX7_readMask_25 : decode cX7_readMask 25 = .ok (.bipush 6, 2) := by decide +kernel
theorem dX7_readMask_27 : decode cX7_readMask 27 = .ok (.imul, 1) := by decide +kernel
theorem dX7_readMask_28 : decode cX7_readMask 28 = .ok (.iload_n 2, 1) := by decide +kernel
theorem dX7_readMask_29 : decode cX7_readMask 29 = .ok (.iadd, 1) := by decide +kernel
theorem dX7_readMask_30 : decode cX7_readMask 30 = .ok (.istore_n 3, 1) := by decide +kernel
theorem dX7_readMask_31 : decode cX7_readMask 31 = .ok (.iload_n 1, 1) := by decide +kernel
theorem dX7_readMask_32 : decode cX7_readMask 32 = .ok (.iload_n 2, 1) := by decide +kernel
theorem dX7_readMask_33 : decode cX7_readMask 33 = .ok (.if_icmp .eq 15, 3) := by decide +kernel
theorem dX7_readMask_36 : decode cX7_readMask 36 = .ok (.aload_n 0, 1) := by decide +kernel
theorem dX7_readMask_37 : decode cX7_readMask 37 = .ok (.getfield 15, 3) := by decide +kernel
theorem dX7_readMask_40 : decode cX7_readMask 40 = .ok (.getfield 214, 3) := by decide +kernel
theorem dX7_readMask_43 : decode cX7_readMask 43 = .ok (.iload_n 3, 1) := by decide +kernel
theorem dX7_readMask_44 : decode cX7_readMask 44 = .ok (.iaload, 1) := by decide +kernel
theorem dX7_readMask_45 : decode cX7_readMask 45 = .ok (.ifCond .le 8, 3) := by decide +kernel
theorem dX7_readMask_48 : decode cX7_readMask 48 = .ok (.aload_n 0, 1) := by decide +kernel
theorem dX7_readMask_49 : decode cX7_readMask 49 = .ok (.iconst 5, 1) := by decide +kernel
theorem dX7_readMask_50 : decode cX7_readMask 50 = .ok (.invokevirtual 124, 3) := by decide +kernel
theorem dX7_readMask_53 : decode cX7_readMask 53 = .ok (.aload_n 0, 1) := by decide +kernel
theorem dX7_readMask_54 : decode cX7_readMask 54 = .ok (.getfield 15, 3) := by decide +kernel
theorem dX7_readMask_57 : decode cX7_readMask 57 = .ok (.getfield 214, 3) := by decide +kernel
theorem dX7_readMask_60 : decode cX7_readMask 60 = .ok (.iload_n 3, 1) := by decide +kernel
theorem dX7_readMask_61 : decode cX7_readMask 61 = .ok (.aload_n 0, 1) := by decide +kernel
theorem dX7_readMask_62 : decode cX7_readMask 62 = .ok (.iconst 1, 1) := by decide +kernel
theorem dX7_readMask_63 : decode cX7_readMask 63 = .ok (.bipush 100, 2) := by decide +kernel
theorem dX7_readMask_65 : decode cX7_readMask 65 = .ok (.invokevirtual 101, 3) := by decide +kernel
theorem dX7_readMask_68 : decode cX7_readMask 68 = .ok (.iastore, 1) := by decide +kernel
theorem dX7_readMask_69 : decode cX7_readMask 69 = .ok (.aload_n 0, 1) := by decide +kernel
theorem dX7_readMask_70 : decode cX7_readMask 70 = .ok (.getfield 15, 3) := by decide +kernel
theorem dX7_readMask_73 : decode cX7_readMask 73 = .ok (.getfield 217, 3) := by decide +kernel
theorem dX7_readMask_76 : decode cX7_readMask 76 = .ok (.iload_n 2, 1) := by decide +kernel
theorem dX7_readMask_77 : decode cX7_readMask 77 = .ok (.iconst 1, 1) := by decide +kernel
theorem dX7_readMask_78 : decode cX7_readMask 78 = .ok (.bastore, 1) := by decide +kernel
theorem dX7_readMask_79 : decode cX7_readMask 79 = .ok (.aload_n 0, 1) := by decide +kernel
theorem dX7_readMask_80 : decode cX7_readMask 80 = .ok (.invokevirtual 127, 3) := by decide +kernel
theorem dX7_readMask_83 : decode cX7_readMask 83 = .ok (.return_, 1) := by decide +kernel
def J_X7_readMask_53 (v2 : Int32) (v3 : Int32) (D : aD) : Option (aD) :=
  aBi (f_X7_number 1 100 D) (fun y_7 D_8 => aGd (aIn v3 36) (aLet (pI D_8 31 v3.toNatClampNeg y_7) (fun D_10 => aGd (aIn v2 6) (aLet (pI D_10 32 v2.toNatClampNeg 1) (fun D_12 => (f_X7_close D_12).bind (fun D_13 => some D_13))))))
def J_X7_readMask_48 (v2 : Int32) (v3 : Int32) (D : aD) : Option (aD) :=
  (f_X7_fail 5 D).bind (fun D_6 => J_X7_readMask_53 v2 v3 D_6)
def f_X7_readMask (D : aD) : Option (aD) :=
  aBi (f_X7_known (gI D 21 2) D) (fun y_1 D_2 => aBi (f_X7_known (gI D_2 21 2) D_2) (fun y_3 D_4 => aLet ((y_1 * 6) + y_3) (fun v3_5 => if y_1 = y_3 then (J_X7_readMask_48 y_3 v3_5 D_4) else (aGd (aIn v3_5 36) (if gI D_4 31 v3_5.toNatClampNeg ≤ 0 then (J_X7_readMask_53 y_3 v3_5 D_4) else (J_X7_readMask_48 y_3 v3_5 D_4))))))
set_option maxRecDepth 100000 in
set_option maxHeartbeats 800000 in
theorem c_X7_readMask {G : aG} (hG : gOK G) {shp : List aSh} (hS : aShp shp) {fr : Option Nat} {D : aD} {K : aD → Prop} (h : Ok (f_X7_readMask D) K) : AC G (aRm 4 0 0) M_X7_readMask [.ref 56] fr shp D (aQv shp K) := by
  unfold f_X7_readMask at h
  refine AC.of (al := [some (.ref 56), none, none, none]) (r := 3) (by decide) (Nat.le_of_ble_eq_true rfl) rfl ?_
  have hJ_53 : ∀ (v2 : Int32) (v3 : Int32) (D : aD), Ok (J_X7_readMask_53 v2 v3 D) K → AW G (aRm 4 0 0) M_X7_readMask fr 0 0 53 [some (.ref 56), none, some (.int v2), some (.int v3)] [] shp D (aQv shp K) := by
    intro v2 v3 D h
    unfold J_X7_readMask_53 at h
    refine aw_aload_n (n := 54) (i := 0) dX7_readMask_53 rfl rfl rfl ?_
    refine aw_getR (n := 57) (j := 1) (r := 21) hG.1 fl_RX7_15 (sF_56 hS) rfl dX7_readMask_54 rfl ?_
    refine aw_getR (n := 60) (j := 14) (r := 31) hG.1 fl_RX7_214 (sF_21 hS) rfl dX7_readMask_57 rfl ?_
    refine aw_iload_n (n := 61) (i := 3) dX7_readMask_60 rfl rfl rfl ?_
    refine aw_aload_n (n := 62) (i := 0) dX7_readMask_61 rfl rfl rfl ?_
    refine aw_iconst (n := 63) (v := 1) dX7_readMask_62 rfl (by decide) ?_
    refine aw_bipush (n := 65) (v := 100) dX7_readMask_63 rfl (by decide) ?_
    refine aw_cVi (M := M_X7_readMask) (n := 68) (As := [.int 1, .int 100]) (rest := [.int v3, .ref 31]) hG.1 lk_RX7_101 rfl rfl (sF_56 hS) (c_X7_number hG hS (h := Ok.bi h)) (by decide) (Nat.le_of_ble_eq_true rfl) (by decide) (by decide) dX7_readMask_65 rfl (fun y_7 D_8 h => ?_)
    obtain ⟨g_9, h⟩ := Ok.gd h
    obtain ⟨D_10, e_D_10, h⟩ := Ok.let_ h
    refine aw_iastore (n := 69) hG.1 (sF_31 hS) (aIn_in g_9) e_D_10 dX7_readMask_68 rfl ?_
    refine aw_aload_n (n := 70) (i := 0) dX7_readMask_69 rfl rfl rfl ?_
    refine aw_getR (n := 73) (j := 1) (r := 21) hG.1 fl_RX7_15 (sF_56 hS) rfl dX7_readMask_70 rfl ?_
    refine aw_getR (n := 76) (j := 15) (r := 32) hG.1 fl_RX7_217 (sF_21 hS) rfl dX7_readMask_73 rfl ?_
    refine aw_iload_n (n := 77) (i := 2) dX7_readMask_76 rfl rfl rfl ?_
    refine aw_iconst (n := 78) (v := 1) dX7_readMask_77 rfl (by decide) ?_
    obtain ⟨g_11, h⟩ := Ok.gd h
    obtain ⟨D_12, e_D_12, h⟩ := Ok.let_ h
    refine aw_zastore (n := 79) hG.1 (by decide) (sF_32 hS) (aIn_in g_11) e_D_12 dX7_readMask_78 rfl ?_
    refine aw_aload_n (n := 80) (i := 0) dX7_readMask_79 rfl rfl rfl ?_
    refine aw_cVv (M := M_X7_readMask) (n := 83) (As := []) (rest := []) hG.1 lk_RX7_127 rfl rfl (sF_56 hS) (c_X7_close hG hS (h := Ok.bind h)) (by decide) (Nat.le_of_ble_eq_true rfl) (by decide) (by decide) dX7_readMask_80 rfl (fun D_13 h => ?_)
    exact aw_vret rfl (by decide) (by decide) dX7_readMask_83 ⟨rfl, rfl, (Ok.dn h :)⟩
  have hJ_48 : ∀ (v2 : Int32) (v3 : Int32) (D : aD), Ok (J_X7_readMask_48 v2 v3 D) K → AW G (aRm 4 0 0) M_X7_readMask fr 0 0 48 [some (.ref 56), none, some (.int v2), some (.int v3)] [] shp D (aQv shp K) := by
    intro v2 v3 D h
    unfold J_X7_readMask_48 at h
    refine aw_aload_n (n := 49) (i := 0) dX7_readMask_48 rfl rfl rfl ?_
    refine aw_iconst (n := 50) (v := 5) dX7_readMask_49 rfl (by decide) ?_
    refine aw_cVv (M := M_X7_readMask) (n := 53) (As := [.int 5]) (rest := []) hG.1 lk_RX7_124 rfl rfl (sF_56 hS) (c_X7_fail hG hS (h := Ok.bind h)) (by decide) (Nat.le_of_ble_eq_true rfl) (by decide) (by decide) dX7_readMask_50 rfl (fun D_6 h => ?_)
    exact aw_le' (hJ_53 v2 v3 D_6 h) ⟨rfl, ⟨rfl, ⟨rfl, trivial⟩⟩⟩
  refine aw_aload_n (n := 1) (i := 0) dX7_readMask_0 rfl rfl rfl ?_
  refine aw_aload_n (n := 2) (i := 0) dX7_readMask_1 rfl rfl rfl ?_
  refine aw_getR (n := 5) (j := 1) (r := 21) hG.1 fl_RX7_15 (sF_56 hS) rfl dX7_readMask_2 rfl ?_
  refine aw_getI (n := 8) (j := 2) hG.1 fl_RX7_140 (sF_21 hS) rfl dX7_readMask_5 rfl ?_
  refine aw_cVi (M := M_X7_readMask) (n := 11) (As := [.int (gI D 21 2)]) (rest := []) hG.1 lk_RX7_183 rfl rfl (sF_56 hS) (c_X7_known hG hS (h := Ok.bi h)) (by decide) (Nat.le_of_ble_eq_true rfl) (by decide) (by decide) dX7_readMask_8 rfl (fun y_1 D_2 h => ?_)
  refine aw_istore_n (n := 12) (i := 1) (al' := [some (.ref 56), some (.int y_1), none, none]) dX7_readMask_11 rfl rfl rfl (by decide) rfl ?_
  refine aw_aload_n (n := 13) (i := 0) dX7_readMask_12 rfl rfl rfl ?_
  refine aw_aload_n (n := 14) (i := 0) dX7_readMask_13 rfl rfl rfl ?_
  refine aw_getR (n := 17) (j := 1) (r := 21) hG.1 fl_RX7_15 (sF_56 hS) rfl dX7_readMask_14 rfl ?_
  refine aw_getI (n := 20) (j := 2) hG.1 fl_RX7_140 (sF_21 hS) rfl dX7_readMask_17 rfl ?_
  refine aw_cVi (M := M_X7_readMask) (n := 23) (As := [.int (gI D_2 21 2)]) (rest := []) hG.1 lk_RX7_183 rfl rfl (sF_56 hS) (c_X7_known hG hS (h := Ok.bi h)) (by decide) (Nat.le_of_ble_eq_true rfl) (by decide) (by decide) dX7_readMask_20 rfl (fun y_3 D_4 h => ?_)
  refine aw_istore_n (n := 24) (i := 2) (al' := [some (.ref 56), some (.int y_1), some (.int y_3), none]) dX7_readMask_23 rfl rfl rfl (by decide) rfl ?_
  refine aw_iload_n (n := 25) (i := 1) dX7_readMask_24 rfl rfl rfl ?_
  refine aw_bipush (n := 27) (v := 6) dX7_readMask_25 rfl (by decide) ?_
  refine aw_imul (n := 28) dX7_readMask_27 rfl ?_
  refine aw_iload_n (n := 29) (i := 2) dX7_readMask_28 rfl rfl rfl ?_
  refine aw_iadd (n := 30) dX7_readMask_29 rfl ?_
  obtain ⟨v3_5, e_v3_5, h⟩ := Ok.let_ h
  refine aw_istore_n (n := 31) (i := 3) (al' := [some (.ref 56), some (.int y_1), some (.int y_3), some (.int v3_5)]) dX7_readMask_30 rfl rfl e_v3_5 (by decide) rfl ?_
  refine aw_iload_n (n := 32) (i := 1) dX7_readMask_31 rfl rfl rfl ?_
  refine aw_iload_n (n := 33) (i := 2) dX7_readMask_32 rfl rfl rfl ?_
  refine aw_icmp_eq (n := 36) (tgt := 48) dX7_readMask_33 rfl (by decide) (fun c => ?_) (fun c => ?_)
  · replace h := Ok.ift h c
    exact aw_le' (hJ_48 y_3 v3_5 D_4 h) ⟨rfl, ⟨rfl, ⟨rfl, trivial⟩⟩⟩
  · replace h := Ok.iff h c
    refine aw_aload_n (n := 37) (i := 0) dX7_readMask_36 rfl rfl rfl ?_
    refine aw_getR (n := 40) (j := 1) (r := 21) hG.1 fl_RX7_15 (sF_56 hS) rfl dX7_readMask_37 rfl ?_
    refine aw_getR (n := 43) (j := 14) (r := 31) hG.1 fl_RX7_214 (sF_21 hS) rfl dX7_readMask_40 rfl ?_
    refine aw_iload_n (n := 44) (i := 3) dX7_readMask_43 rfl rfl rfl ?_
    obtain ⟨g_14, h⟩ := Ok.gd h
    refine aw_iaload (n := 45) hG.1 (sF_31 hS) (aIn_in g_14) dX7_readMask_44 rfl ?_
    refine aw_if_le (n := 48) (tgt := 53) dX7_readMask_45 rfl (by decide) (fun c => ?_) (fun c => ?_)
    · replace h := Ok.ift h c
      exact aw_le' (hJ_53 y_3 v3_5 D_4 h) ⟨rfl, ⟨rfl, ⟨rfl, trivial⟩⟩⟩
    · replace h := Ok.iff h c
      exact aw_le' (hJ_48 y_3 v3_5 D_4 h) ⟨rfl, ⟨rfl, ⟨rfl, trivial⟩⟩⟩
theorem dX7_cell_0 : decode cX7_cell 0 = .ok (.aload_n 0, 1) := by decide +kernel
theorem dX7_cell_1 : decode cX7_cell 1 = .ok (.iconst 0, 1) := by decide +kernel
theorem dX7_cell_2 : decode cX7_cell 2 = .ok (.aload_n 0, 1) := by decide +kernel
theorem dX7_cell_3 : decode cX7_cell 3 = .ok (.getfield 15, 3) := by decide +kernel
theorem dX7_cell_6 : decode cX7_cell 6 = .ok (.getfield 130, 3) := by decide +kernel
theorem dX7_cell_9 : decode cX7_cell 9 = .ok (.getfield 220, 3) := by decide +kernel
theorem dX7_cell_12 : decode cX7_cell 12 = .ok (.iconst 1, 1) := by decide +kernel
theorem dX7_cell_13 : decode cX7_cell 13 = .ok (.isub, 1) := by decide +kernel
theorem dX7_cell_14 : decode cX7_cell 14 = .ok (.invokevirtual 101, 3) := by decide +kernel
theorem dX7_cell_17 : decode cX7_cell 17 = .ok (.istore_n 1, 1) := by decide +kernel
theorem dX7_cell_18 : decode cX7_cell 18 = .ok (.aload_n 0, 1) := by decide +kernel
theorem dX7_cell_19 : decode cX7_cell 19 = .ok (.iconst 0, 1) := by decide +kernel
theorem dX7_cell_20 : decode cX7_cell 20 = .ok (.aload_n 0, 1) := by decide +kernel
theorem dX7_cell_21 : decode cX7_cell 21 = .ok (.getfield 15, 3) := by decide +kernel
theorem dX7_cell_24 : decode cX7_cell 24 = .ok (.getfield 130, 3) := by decide +kernel
theorem dX7_cell_27 : decode cX7_cell 27 = .ok (.getfield 223, 3) := by decide +kernel
theorem dX7_cell_30 : decode cX7_cell 30 = .ok (.iconst 1, 1) := by decide +kernel
theorem dX7_cell_31 : decode cX7_cell 31 = .ok (.isub, 1) := by decide +kernel
theorem dX7_cell_32 : decode cX7_cell 32 = .ok (.invokevirtual 101, 3) := by decide +kernel
theorem dX7_cell_35 : decode cX7_cell 35 = .ok (.istore_n 2, 1) := by decide +kernel
theorem dX7_cell_36 : decode cX7_cell 36 = .ok (.iload_n 2, 1) := by decide +kernel
theorem dX7_cell_37 : decode cX7_cell 37 = .ok (.aload_n 0, 1) := by decide +kernel
theorem dX7_cell_38 : decode cX7_cell 38 = .ok (.getfield 15, 3) := by decide +kernel
theorem dX7_cell_41 : decode cX7_cell 41 = .ok (.getfield 130, 3) := by decide +kernel
theorem dX7_cell_44 : decode cX7_cell 44 = .ok (.getfield 220, 3) := by decide +kernel
theorem dX7_cell_47 : decode cX7_cell 47 = .ok (.imul, 1) := by decide +kernel
theorem dX7_cell_48 : decode cX7_cell 48 = .ok (.iload_n 1, 1) := by decide +kernel
theorem dX7_cell_49 : decode cX7_cell 49 = .ok (.iadd, 1) := by decide +kernel
theorem dX7_cell_50 : decode cX7_cell 50 = .ok (.ireturn, 1) := by decide +kernel
def f_X7_cell (D : aD) : Option (Int32 × aD) :=
  aBi (f_X7_number 0 ((gI D 22 0) - 1) D) (fun y_1 D_2 => aBi (f_X7_number 0 ((gI D_2 22 1) - 1) D_2) (fun y_3 D_4 => some ((y_3 * (gI D_4 22 0)) + y_1, D_4)))
set_option maxRecDepth 100000 in
set_option maxHeartbeats 800000 in
theorem c_X7_cell {G : aG} (hG : gOK G) {shp : List aSh} (hS : aShp shp) {fr : Option Nat} {D : aD} {K : Int32 → aD → Prop} (h : Ok2 (f_X7_cell D) K) : AC G (aRm 4 0 0) M_X7_cell [.ref 56] fr shp D (aQi shp K) := by
  replace h := Ok2.ok h
  unfold f_X7_cell at h
  refine AC.of (al := [some (.ref 56), none, none]) (r := 2) (by decide) (Nat.le_of_ble_eq_true rfl) rfl ?_
  refine aw_aload_n (n := 1) (i := 0) dX7_cell_0 rfl rfl rfl ?_
  refine aw_iconst (n := 2) (v := 0) dX7_cell_1 rfl (by decide) ?_
  refine aw_aload_n (n := 3) (i := 0) dX7_cell_2 rfl rfl rfl ?_
  refine aw_getR (n := 6) (j := 1) (r := 21) hG.1 fl_RX7_15 (sF_56 hS) rfl dX7_cell_3 rfl ?_
  refine aw_getR (n := 9) (j := 0) (r := 22) hG.1 fl_RX7_130 (sF_21 hS) rfl dX7_cell_6 rfl ?_
  refine aw_getI (n := 12) (j := 0) hG.1 fl_RX7_220 (sF_22 hS) rfl dX7_cell_9 rfl ?_
  refine aw_iconst (n := 13) (v := 1) dX7_cell_12 rfl (by decide) ?_
  refine aw_isub (n := 14) dX7_cell_13 rfl ?_
  refine aw_cVi (M := M_X7_cell) (n := 17) (As := [.int 0, .int ((gI D 22 0) - 1)]) (rest := []) hG.1 lk_RX7_101 rfl rfl (sF_56 hS) (c_X7_number hG hS (h := Ok.bi h)) (by decide) (Nat.le_of_ble_eq_true rfl) (by decide) (by decide) dX7_cell_14 rfl (fun y_1 D_2 h => ?_)
  refine aw_istore_n (n := 18) (i := 1) (al' := [some (.ref 56), some (.int y_1), none]) dX7_cell_17 rfl rfl rfl (by decide) rfl ?_
  refine aw_aload_n (n := 19) (i := 0) dX7_cell_18 rfl rfl rfl ?_
  refine aw_iconst (n := 20) (v := 0) dX7_cell_19 rfl (by decide) ?_
  refine aw_aload_n (n := 21) (i := 0) dX7_cell_20 rfl rfl rfl ?_
  refine aw_getR (n := 24) (j := 1) (r := 21) hG.1 fl_RX7_15 (sF_56 hS) rfl dX7_cell_21 rfl ?_
  refine aw_getR (n := 27) (j := 0) (r := 22) hG.1 fl_RX7_130 (sF_21 hS) rfl dX7_cell_24 rfl ?_
  refine aw_getI (n := 30) (j := 1) hG.1 fl_RX7_223 (sF_22 hS) rfl dX7_cell_27 rfl ?_
  refine aw_iconst (n := 31) (v := 1) dX7_cell_30 rfl (by decide) ?_
  refine aw_isub (n := 32) dX7_cell_31 rfl ?_
  refine aw_cVi (M := M_X7_cell) (n := 35) (As := [.int 0, .int ((gI D_2 22 1) - 1)]) (rest := []) hG.1 lk_RX7_101 rfl rfl (sF_56 hS) (c_X7_number hG hS (h := Ok.bi h)) (by decide) (Nat.le_of_ble_eq_true rfl) (by decide) (by decide) dX7_cell_32 rfl (fun y_3 D_4 h => ?_)
  refine aw_istore_n (n := 36) (i := 2) (al' := [some (.ref 56), some (.int y_1), some (.int y_3)]) dX7_cell_35 rfl rfl rfl (by decide) rfl ?_
  refine aw_iload_n (n := 37) (i := 2) dX7_cell_36 rfl rfl rfl ?_
  refine aw_aload_n (n := 38) (i := 0) dX7_cell_37 rfl rfl rfl ?_
  refine aw_getR (n := 41) (j := 1) (r := 21) hG.1 fl_RX7_15 (sF_56 hS) rfl dX7_cell_38 rfl ?_
  refine aw_getR (n := 44) (j := 0) (r := 22) hG.1 fl_RX7_130 (sF_21 hS) rfl dX7_cell_41 rfl ?_
  refine aw_getI (n := 47) (j := 0) hG.1 fl_RX7_220 (sF_22 hS) rfl dX7_cell_44 rfl ?_
  refine aw_imul (n := 48) dX7_cell_47 rfl ?_
  refine aw_iload_n (n := 49) (i := 1) dX7_cell_48 rfl rfl rfl ?_
  refine aw_iadd (n := 50) dX7_cell_49 rfl ?_
  exact aw_iret rfl (by decide) (by decide) dX7_cell_50 ⟨_, rfl, rfl, (Ok.dn h :)⟩
theorem dX7_readGate_0 : decode cX7_readGate 0 = .ok (.aload_n 0, 1) := by decide +kernel
theorem dX7_readGate_1 : decode cX7_readGate 1 = .ok (.getfield 15, 3) := by decide +kernel
theorem dX7_readGate_4 : decode cX7_readGate 4 = .ok (.getfield 208, 3) := by decide +kernel
theorem dX7_readGate_7 : decode cX7_readGate 7 = .ok (.iconst 5, 1) := by decide +kernel
theorem dX7_readGate_8 : decode cX7_readGate 8 = .ok (.if_icmp .lt 9, 3) := by decide +kernel
theorem dX7_readGate_11 : decode cX7_readGate 11 = .ok (.aload_n 0, 1) := by decide +kernel
theorem dX7_readGate_12 : decode cX7_readGate 12 = .ok (.iconst 2, 1) := by decide +kernel
theorem dX7_readGate_13 : decode cX7_readGate 13 = .ok (.invokevirtual 124, 3) := by decide +kernel
theorem dX7_readGate_16 : decode cX7_readGate 16 = .ok (.return_, 1) := by decide +kernel
theorem dX7_readGate_17 : decode cX7_readGate 17 = .ok (.aload_n 0, 1) := by decide +kernel
theorem dX7_readGate_18 : decode cX7_readGate 18 = .ok (.getfield 15, 3) := by decide +kernel
theorem dX7_readGate_21 : decode cX7_readGate 21 = .ok (.getfield 211, 3) := by decide +kernel
theorem dX7_readGate_24 : decode cX7_readGate 24 = .ok (.aload_n 0, 1) := by decide +kernel
theorem dX7_readGate_25 : decode cX7_readGate 25 = .ok (.getfield 15, 3) := by decide +kernel
theorem dX7_readGate_28 : decode cX7_readGate 28 = .ok (.getfield 208, 3) := by decide +kernel
theorem dX7_readGate_31 : decode cX7_readGate 31 = .ok (.aload_n 0, 1) := by decide +kernel
theorem dX7_readGate_32 : decode cX7_readGate 32 = .ok (.invokevirtual 186, 3) := by decide +kernel
theorem dX7_readGate_35 : decode cX7_readGate 35 = .ok (.iastore, 1) := by decide +kernel
theorem dX7_readGate_36 : decode cX7_readGate 36 = .ok (.aload_n 0, 1) := by decide +kernel
theorem dX7_readGate_37 : decode cX7_readGate 37 = .ok (.invokevirtual 127, 3) := by decide +kernel
theorem dX7_readGate_40 : decode cX7_readGate 40 = .ok (.aload_n 0, 1) := by decide +kernel
theorem dX7_readGate_41 : decode cX7_readGate 41 = .ok (.getfield 15, 3) := by decide +kernel
theorem dX7_readGate_44 : decode cX7_readGate 44 = .ok (.dup, 1) := by decide +kernel
theorem dX7_readGate_45 : decode cX7_readGate 45 = .ok (.getfield 208, 3) := by decide +kernel
theorem dX7_readGate_48 : decode cX7_readGate 48 = .ok (.iconst 1, 1) := by decide +kernel
theorem dX7_readGate_49 : decode cX7_readGate 49 = .ok (.iadd, 1) := by decide +kernel
theorem dX7_readGate_50 : decode cX7_readGate 50 = .ok (.putfield 208, 3) := by decide +kernel
theorem dX7_readGate_53 : decode cX7_readGate 53 = .ok (.return_, 1) := by decide +kernel
def f_X7_readGate (D : aD) : Option (aD) :=
  if gI D 21 5 < 5 then (aBi (f_X7_cell D) (fun y_1 D_2 => aGd (aIn (gI D 21 5) 5) (aLet (pI D_2 30 (gI D 21 5).toNatClampNeg y_1) (fun D_4 => (f_X7_close D_4).bind (fun D_5 => aLet (pI D_5 21 5 ((gI D_5 21 5) + 1)) (fun D_6 => some D_6)))))) else ((f_X7_fail 2 D).bind (fun D_7 => some D_7))
set_option maxRecDepth 100000 in
set_option maxHeartbeats 800000 in
theorem c_X7_readGate {G : aG} (hG : gOK G) {shp : List aSh} (hS : aShp shp) {fr : Option Nat} {D : aD} {K : aD → Prop} (h : Ok (f_X7_readGate D) K) : AC G (aRm 5 0 0) M_X7_readGate [.ref 56] fr shp D (aQv shp K) := by
  unfold f_X7_readGate at h
  refine AC.of (al := [some (.ref 56)]) (r := 0) (by decide) (Nat.le_of_ble_eq_true rfl) rfl ?_
  refine aw_aload_n (n := 1) (i := 0) dX7_readGate_0 rfl rfl rfl ?_
  refine aw_getR (n := 4) (j := 1) (r := 21) hG.1 fl_RX7_15 (sF_56 hS) rfl dX7_readGate_1 rfl ?_
  refine aw_getI (n := 7) (j := 5) hG.1 fl_RX7_208 (sF_21 hS) rfl dX7_readGate_4 rfl ?_
  refine aw_iconst (n := 8) (v := 5) dX7_readGate_7 rfl (by decide) ?_
  refine aw_icmp_lt (n := 11) (tgt := 17) dX7_readGate_8 rfl (by decide) (fun c => ?_) (fun c => ?_)
  · replace h := Ok.ift h c
    refine aw_aload_n (n := 18) (i := 0) dX7_readGate_17 rfl rfl rfl ?_
    refine aw_getR (n := 21) (j := 1) (r := 21) hG.1 fl_RX7_15 (sF_56 hS) rfl dX7_readGate_18 rfl ?_
    refine aw_getR (n := 24) (j := 13) (r := 30) hG.1 fl_RX7_211 (sF_21 hS) rfl dX7_readGate_21 rfl ?_
    refine aw_aload_n (n := 25) (i := 0) dX7_readGate_24 rfl rfl rfl ?_
    refine aw_getR (n := 28) (j := 1) (r := 21) hG.1 fl_RX7_15 (sF_56 hS) rfl dX7_readGate_25 rfl ?_
    refine aw_getI (n := 31) (j := 5) hG.1 fl_RX7_208 (sF_21 hS) rfl dX7_readGate_28 rfl ?_
    refine aw_aload_n (n := 32) (i := 0) dX7_readGate_31 rfl rfl rfl ?_
    refine aw_cVi (M := M_X7_readGate) (n := 35) (As := []) (rest := [.int (gI D 21 5), .ref 30]) hG.1 lk_RX7_186 rfl rfl (sF_56 hS) (c_X7_cell hG hS (h := Ok.bi h)) (by decide) (Nat.le_of_ble_eq_true rfl) (by decide) (by decide) dX7_readGate_32 rfl (fun y_1 D_2 h => ?_)
    obtain ⟨g_3, h⟩ := Ok.gd h
    obtain ⟨D_4, e_D_4, h⟩ := Ok.let_ h
    refine aw_iastore (n := 36) hG.1 (sF_30 hS) (aIn_in g_3) e_D_4 dX7_readGate_35 rfl ?_
    refine aw_aload_n (n := 37) (i := 0) dX7_readGate_36 rfl rfl rfl ?_
    refine aw_cVv (M := M_X7_readGate) (n := 40) (As := []) (rest := []) hG.1 lk_RX7_127 rfl rfl (sF_56 hS) (c_X7_close hG hS (h := Ok.bind h)) (by decide) (Nat.le_of_ble_eq_true rfl) (by decide) (by decide) dX7_readGate_37 rfl (fun D_5 h => ?_)
    refine aw_aload_n (n := 41) (i := 0) dX7_readGate_40 rfl rfl rfl ?_
    refine aw_getR (n := 44) (j := 1) (r := 21) hG.1 fl_RX7_15 (sF_56 hS) rfl dX7_readGate_41 rfl ?_
    refine aw_dup (n := 45) dX7_readGate_44 rfl rfl ?_
    refine aw_getI (n := 48) (j := 5) hG.1 fl_RX7_208 (sF_21 hS) rfl dX7_readGate_45 rfl ?_
    refine aw_iconst (n := 49) (v := 1) dX7_readGate_48 rfl (by decide) ?_
    refine aw_iadd (n := 50) dX7_readGate_49 rfl ?_
    obtain ⟨D_6, e_D_6, h⟩ := Ok.let_ h
    refine aw_putI (n := 53) (j := 5) hG.1 fl_RX7_208 (sF_21 hS) rfl e_D_6 dX7_readGate_50 rfl ?_
    exact aw_vret rfl (by decide) (by decide) dX7_readGate_53 ⟨rfl, rfl, (Ok.dn h :)⟩
  · replace h := Ok.iff h c
    refine aw_aload_n (n := 12) (i := 0) dX7_readGate_11 rfl rfl rfl ?_
    refine aw_iconst (n := 13) (v := 2) dX7_readGate_12 rfl (by decide) ?_
    refine aw_cVv (M := M_X7_readGate) (n := 16) (As := [.int 2]) (rest := []) hG.1 lk_RX7_124 rfl rfl (sF_56 hS) (c_X7_fail hG hS (h := Ok.bind h)) (by decide) (Nat.le_of_ble_eq_true rfl) (by decide) (by decide) dX7_readGate_13 rfl (fun D_7 h => ?_)
    exact aw_vret rfl (by decide) (by decide) dX7_readGate_16 ⟨rfl, rfl, (Ok.dn h :)⟩
theorem dX7_owner_0 : decode cX7_owner 0 = .ok (.aload_n 0, 1) := by decide +kernel
theorem dX7_owner_1 : decode cX7_owner 1 = .ok (.getfield 35, 3) := by decide +kernel
theorem dX7_owner_4 : decode cX7_owner 4 = .ok (.ifCond .eq 5, 3) := by decide +kernel
theorem dX7_owner_7 : decode cX7_owner 7 = .ok (.iconst (-1), 1) := by decide +kernel
theorem dX7_owner_8 : decode cX7_owner 8 = .ok (.ireturn, 1) := by decide +kernel
theorem dX7_owner_9 : decode cX7_owner 9 = .ok (.aload_n 0, 1) := by decide +kernel
theorem dX7_owner_10 : decode cX7_owner 10 = .ok (.invokevirtual 46, 3) := by decide +kernel
theorem dX7_owner_13 : decode cX7_owner 13 = .ok (.aload_n 0, 1) := by decide +kernel
theorem dX7_owner_14 : decode cX7_owner 14 = .ok (.ldc 203, 2) := by decide +kernel
theorem dX7_owner_16 : decode cX7_owner 16 = .ok (.invokevirtual 58, 3) := by decide +kernel
theorem dX7_owner_19 : decode cX7_owner 19 = .ok (.ifCond .eq 21, 3) := by decide +kernel
theorem dX7_owner_22 : decode cX7_owner 22 = .ok (.aload_n 0, 1) := by decide +kernel
theorem dX7_owner_23 : decode cX7_owner 23 = .ok (.aload_n 0, 1) := by decide +kernel
theorem dX7_owner_24 : decode cX7_owner 24 = .ok (.getfield 15, 3) := by decide +kernel
theorem dX7_owner_27 : decode cX7_owner 27 = .ok (.getfield 174, 3) := by decide +kernel
theorem dX7_owner_30 : decode cX7_owner 30 = .ok (.invokevirtual 183, 3) := by decide +kernel
theorem dX7_owner_33 : decode cX7_owner 33 = .ok (.istore_n 1, 1) := by decide +kernel
theorem dX7_owner_34 : decode cX7_owner 34 = .ok (.aload_n 0, 1) := by decide +kernel
theorem dX7_owner_35 : decode cX7_owner 35 = .ok (.invokevirtual 127, 3) := by decide +kernel
theorem dX7_owner_38 : decode cX7_owner 38 = .ok (.iload_n 1, 1) := by decide +kernel
theorem dX7_owner_39 : decode cX7_owner 39 = .ok (.ireturn, 1) := by decide +kernel
theorem dX7_owner_40 : decode cX7_owner 40 = .ok (.aload_n 0, 1) := by decide +kernel
theorem dX7_owner_41 : decode cX7_owner 41 = .ok (.invokevirtual 205, 3) := by decide +kernel
theorem dX7_owner_44 : decode cX7_owner 44 = .ok (.iconst (-1), 1) := by decide +kernel
theorem dX7_owner_45 : decode cX7_owner 45 = .ok (.ireturn, 1) := by decide +kernel
def f_X7_owner (D : aD) : Option (Int32 × aD) :=
  if gI D 56 7 = 0 then ((f_X7_take D).bind (fun D_1 => aBi (f_X7_isWord 10 D_1) (fun y_2 D_3 => if y_2 = 0 then ((f_X7_needSemicolon D_3).bind (fun D_4 => some ((-1), D_4))) else (aBi (f_X7_known (gI D_3 21 3) D_3) (fun y_5 D_6 => (f_X7_close D_6).bind (fun D_7 => some (y_5, D_7))))))) else (some ((-1), D))
set_option maxRecDepth 100000 in
set_option maxHeartbeats 800000 in
theorem c_X7_owner {G : aG} (hG : gOK G) {shp : List aSh} (hS : aShp shp) {fr : Option Nat} {D : aD} {K : Int32 → aD → Prop} (h : Ok2 (f_X7_owner D) K) : AC G (aRm 9 0 0) M_X7_owner [.ref 56] fr shp D (aQi shp K) := by
  replace h := Ok2.ok h
  unfold f_X7_owner at h
  refine AC.of (al := [some (.ref 56), none]) (r := 1) (by decide) (Nat.le_of_ble_eq_true rfl) rfl ?_
  refine aw_aload_n (n := 1) (i := 0) dX7_owner_0 rfl rfl rfl ?_
  refine aw_getI (n := 4) (j := 7) hG.1 fl_RX7_35 (sF_56 hS) rfl dX7_owner_1 rfl ?_
  refine aw_if_eq (n := 7) (tgt := 9) dX7_owner_4 rfl (by decide) (fun c => ?_) (fun c => ?_)
  · replace h := Ok.ift h c
    refine aw_aload_n (n := 10) (i := 0) dX7_owner_9 rfl rfl rfl ?_
    refine aw_cVv (M := M_X7_owner) (n := 13) (As := []) (rest := []) hG.1 lk_RX7_46 rfl rfl (sF_56 hS) (c_X7_take hG hS (h := Ok.bind h)) (by decide) (Nat.le_of_ble_eq_true rfl) (by decide) (by decide) dX7_owner_10 rfl (fun D_1 h => ?_)
    refine aw_aload_n (n := 14) (i := 0) dX7_owner_13 rfl rfl rfl ?_
    refine aw_ldcS (M := M_X7_owner) (n := 16) (sk := 10000 + 10) (gS_RX7_203 hG) dX7_owner_14 rfl ?_
    refine aw_cVi (M := M_X7_owner) (n := 19) (As := [.ref (10000 + 10)]) (rest := []) hG.1 lk_RX7_58 rfl rfl (sF_56 hS) (c_X7_isWord hG hS (h := Ok.bi h) (by decide)) (by decide) (Nat.le_of_ble_eq_true rfl) (by decide) (by decide) dX7_owner_16 rfl (fun y_2 D_3 h => ?_)
    refine aw_if_eq (n := 22) (tgt := 40) dX7_owner_19 rfl (by decide) (fun c => ?_) (fun c => ?_)
    · replace h := Ok.ift h c
      refine aw_aload_n (n := 41) (i := 0) dX7_owner_40 rfl rfl rfl ?_
      refine aw_cVv (M := M_X7_owner) (n := 44) (As := []) (rest := []) hG.1 lk_RX7_205 rfl rfl (sF_56 hS) (c_X7_needSemicolon hG hS (h := Ok.bind h)) (by decide) (Nat.le_of_ble_eq_true rfl) (by decide) (by decide) dX7_owner_41 rfl (fun D_4 h => ?_)
      refine aw_iconst (n := 45) (v := (-1)) dX7_owner_44 rfl (by decide) ?_
      exact aw_iret rfl (by decide) (by decide) dX7_owner_45 ⟨_, rfl, rfl, (Ok.dn h :)⟩
    · replace h := Ok.iff h c
      refine aw_aload_n (n := 23) (i := 0) dX7_owner_22 rfl rfl rfl ?_
      refine aw_aload_n (n := 24) (i := 0) dX7_owner_23 rfl rfl rfl ?_
      refine aw_getR (n := 27) (j := 1) (r := 21) hG.1 fl_RX7_15 (sF_56 hS) rfl dX7_owner_24 rfl ?_
      refine aw_getI (n := 30) (j := 3) hG.1 fl_RX7_174 (sF_21 hS) rfl dX7_owner_27 rfl ?_
      refine aw_cVi (M := M_X7_owner) (n := 33) (As := [.int (gI D_3 21 3)]) (rest := []) hG.1 lk_RX7_183 rfl rfl (sF_56 hS) (c_X7_known hG hS (h := Ok.bi h)) (by decide) (Nat.le_of_ble_eq_true rfl) (by decide) (by decide) dX7_owner_30 rfl (fun y_5 D_6 h => ?_)
      refine aw_istore_n (n := 34) (i := 1) (al' := [some (.ref 56), some (.int y_5)]) dX7_owner_33 rfl rfl rfl (by decide) rfl ?_
      refine aw_aload_n (n := 35) (i := 0) dX7_owner_34 rfl rfl rfl ?_
      refine aw_cVv (M := M_X7_owner) (n := 38) (As := []) (rest := []) hG.1 lk_RX7_127 rfl rfl (sF_56 hS) (c_X7_close hG hS (h := Ok.bind h)) (by decide) (Nat.le_of_ble_eq_true rfl) (by decide) (by decide) dX7_owner_35 rfl (fun D_7 h => ?_)
      refine aw_iload_n (n := 39) (i := 1) dX7_owner_38 rfl rfl rfl ?_
      exact aw_iret rfl (by decide) (by decide) dX7_owner_39 ⟨_, rfl, rfl, (Ok.dn h :)⟩
  · replace h := Ok.iff h c
    refine aw_iconst (n := 8) (v := (-1)) dX7_owner_7 rfl (by decide) ?_
    exact aw_iret rfl (by decide) (by decide) dX7_owner_8 ⟨_, rfl, rfl, (Ok.dn h :)⟩
theorem dX7_readPlant_0 : decode cX7_readPlant 0 = .ok (.aload_n 0, 1) := by decide +kernel
theorem dX7_readPlant_1 : decode cX7_readPlant 1 = .ok (.getfield 15, 3) := by decide +kernel
theorem dX7_readPlant_4 : decode cX7_readPlant 4 = .ok (.getfield 177, 3) := by decide +kernel
theorem dX7_readPlant_7 : decode cX7_readPlant 7 = .ok (.bipush 12, 2) := by decide +kernel
theorem dX7_readPlant_9 : decode cX7_readPlant 9 = .ok (.if_icmp .lt 9, 3) := by decide +kernel
theorem dX7_readPlant_12 : decode cX7_readPlant 12 = .ok (.aload_n 0, 1) := by decide +kernel
theorem dX7_readPlant_13 : decode cX7_readPlant 13 = .ok (.iconst 2, 1) := by decide +kernel
theorem dX7_readPlant_14 : decode cX7_readPlant 14 = .ok (.invokevirtual 124, 3) := by decide +kernel
theorem dX7_readPlant_17 : decode cX7_readPlant 17 = .ok (.return_, 1) := by decide +kernel
theorem dX7_readPlant_18 : decode cX7_readPlant 18 = .ok (.aload_n 0, 1) := by decide +kernel
theorem dX7_readPlant_19 : decode cX7_readPlant 19 = .ok (.getfield 15, 3) := by decide +kernel
theorem dX7_readPlant_22 : decode cX7_readPlant 22 = .ok (.getfield 177, 3) := by decide +kernel
theorem dX7_readPlant_25 : decode cX7_readPlant 25 = .ok (.istore_n 1, 1) := by decide +kernel
theorem dX7_readPlant_26 : decode cX7_readPlant 26 = .ok (.aload_n 0, 1) := by decide +kernel
theorem dX7_readPlant_27 : decode cX7_readPlant 27 = .ok (.getfield 15, 3) := by decide +kernel
theorem dX7_readPlant_30 : decode cX7_readPlant 30 = .ok (.getfield 180, 3) := by decide +kernel
theorem dX7_readPlant_33 : decode cX7_readPlant 33 = .ok (.iload_n 1, 1) := by decide +kernel
theorem dX7_readPlant_34 : decode cX7_readPlant 34 = .ok (.aload_n 0, 1) := by decide +kernel
theorem dX7_readPlant_35 : decode cX7_readPlant 35 = .ok (.aload_n 0, 1) := by decide +kernel
theorem dX7_readPlant_36 : decode cX7_readPlant 36 = .ok (.getfield 15, 3) := by decide +kernel
theorem dX7_readPlant_39 : decode cX7_readPlant 39 = .ok (.getfield 140, 3) := by decide +kernel
theorem dX7_readPlant_42 : decode cX7_readPlant 42 = .ok (.invokevirtual 183, 3) := by decide +kernel
theorem dX7_readPlant_45 : decode cX7_readPlant 45 = .ok (.iastore, 1) := by decide +kernel
theorem dX7_readPlant_46 : decode cX7_readPlant 46 = .ok (.aload_n 0, 1) := by decide +kernel
theorem dX7_readPlant_47 : decode cX7_readPlant 47 = .ok (.invokevirtual 186, 3) := by decide +kernel
theorem dX7_readPlant_50 : decode cX7_readPlant 50 = .ok (.istore_n 2, 1) := by decide +kernel
theorem dX7_readPlant_51 : decode cX7_readPlant 51 = .ok (.aload_n 0, 1) := by decide +kernel
theorem dX7_readPlant_52 : decode cX7_readPlant 52 = .ok (.getfield 35, 3) := by decide +kernel
theorem dX7_readPlant_55 : decode cX7_readPlant 55 = .ok (.ifCond .ne 23, 3) := by decide +kernel
theorem dX7_readPlant_58 : decode cX7_readPlant 58 = .ok (.aload_n 0, 1) := by decide +kernel
theorem dX7_readPlant_59 : decode cX7_readPlant 59 = .ok (.getfield 15, 3) := by decide +kernel
theorem dX7_readPlant_62 : decode cX7_readPlant 62 = .ok (.getfield 130, 3) := by decide +kernel
theorem dX7_readPlant_65 : decode cX7_readPlant 65 = .ok (.getfield 190, 3) := by decide +kernel
theorem dX7_readPlant_68 : decode cX7_readPlant 68 = .ok (.iload_n 2, 1) := by decide +kernel
theorem dX7_readPlant_69 : decode cX7_readPlant 69 = .ok (.baload, 1) := by decide +kernel
theorem dX7_readPlant_70 : decode cX7_readPlant 70 = .ok (.ifCond .eq 8, 3) := by decide +kernel
theorem dX7_readPlant_73 : decode cX7_readPlant 73 = .ok (.aload_n 0, 1) := by decide +kernel
theorem dX7_readPlant_74 : decode cX7_readPlant 74 = .ok (.iconst 5, 1) := by decide +kernel
theorem dX7_readPlant_75 : decode cX7_readPlant 75 = .ok (.invokevirtual 124, 3) := by decide +kernel
theorem dX7_readPlant_78 : decode cX7_readPlant 78 = .ok (.aload_n 0, 1) := by decide +kernel
theorem dX7_readPlant_79 : decode cX7_readPlant 79 = .ok (.getfield 15, 3) := by decide +kernel
theorem dX7_readPlant_82 : decode cX7_readPlant 82 = .ok (.getfield 194, 3) := by decide +kernel
theorem dX7_readPlant_85 : decode cX7_readPlant 85 = .ok (.iload_n 1, 1) := by decide +kernel
theorem dX7_readPlant_86 : decode cX7_readPlant 86 = .ok (.iload_n 2, 1) := by decide +kernel
theorem dX7_readPlant_87 : decode cX7_readPlant 87 = .ok (.iastore, 1) := by decide +kernel
theorem dX7_readPlant_88 : decode cX7_readPlant 88 = .ok (.aload_n 0, 1) := by decide +kernel
theorem dX7_readPlant_89 : decode cX7_readPlant 89 = .ok (.getfield 15, 3) := by decide +kernel
theorem dX7_readPlant_92 : decode cX7_readPlant 92 = .ok (.getfield 197, 3) := by decide +kernel
theorem dX7_readPlant_95 : decode cX7_readPlant 95 = .ok (.iload_n 1, 1) := by decide +kernel
theorem dX7_readPlant_96 : decode cX7_readPlant 96 = .ok (.aload_n 0, 1) := by decide +kernel
theorem dX7_readPlant_97 : decode cX7_readPlant 97 = .ok (.invokevirtual 200, 3) := by decide +kernel
theorem dX7_readPlant_100 : decode cX7_readPlant 100 = .ok (.iastore, 1) := by decide +kernel
theorem dX7_readPlant_101 : decode cX7_readPlant 101 = .ok (.aload_n 0, 1) := by decide +kernel
theorem dX7_readPlant_102 : decode cX7_readPlant 102 = .ok (.getfield 15, 3) := by decide +kernel
theorem dX7_readPlant_105 : decode cX7_readPlant 105 = .ok (.getfield 130, 3) := by decide +kernel
theorem dX7_readPlant_108 : decode cX7_readPlant 108 = .ok (.getfield 190, 3) := by decide +kernel
theorem dX7_readPlant_111 : decode cX7_readPlant 111 = .ok (.iload_n 2, 1) := by decide +kernel
theorem dX7_readPlant_112 : decode cX7_readPlant 112 = .ok (.iconst 1, 1) := by decide +kernel
theorem dX7_readPlant_113 : decode cX7_readPlant 113 = .ok (.bastore, 1) := by decide +kernel
theorem dX7_readPlant_114 : decode cX7_readPlant 114 = .ok (.aload_n 0, 1) := by decide +kernel
theorem dX7_readPlant_115 : decode cX7_readPlant 115 = .ok (.getfield 15, 3) := by decide +kernel
theorem dX7_readPlant_118 : decode cX7_readPlant 118 = .ok (.dup, 1) := by decide +kernel
theorem dX7_readPlant_119 : decode cX7_readPlant 119 = .ok (.getfield 177, 3) := by decide +kernel
theorem dX7_readPlant_122 : decode cX7_readPlant 122 = .ok (.iconst 1, 1) := by decide +kernel
theorem dX7_readPlant_123 : decode cX7_readPlant 123 = .ok (.iadd, 1) := by decide +kernel
theorem dX7_readPlant_124 : decode cX7_readPlant 124 = .ok (.putfield 177, 3) := by decide +kernel
theorem dX7_readPlant_127 : decode cX7_readPlant 127 = .ok (.return_, 1) := by decide +kernel
def J_X7_readPlant_78 (v1 : Int32) (v2 : Int32) (D : aD) : Option (aD) :=
  aGd (aIn v1 12) (aLet (pI D 28 v1.toNatClampNeg v2) (fun D_9 => aBi (f_X7_owner D_9) (fun y_10 D_11 => aGd (aIn v1 12) (aLet (pI D_11 29 v1.toNatClampNeg y_10) (fun D_13 => aGd (aIn v2 64) (aLet (pI D_13 25 v2.toNatClampNeg 1) (fun D_15 => aLet (pI D_15 21 4 ((gI D_15 21 4) + 1)) (fun D_16 => some D_16))))))))
def f_X7_readPlant (D : aD) : Option (aD) :=
  if gI D 21 4 < 12 then (aLet (gI D 21 4) (fun v1_1 => aBi (f_X7_known (gI D 21 2) D) (fun y_2 D_3 => aGd (aIn v1_1 12) (aLet (pI D_3 27 v1_1.toNatClampNeg y_2) (fun D_5 => aBi (f_X7_cell D_5) (fun y_6 D_7 => if gI D_7 56 7 ≠ 0 then (J_X7_readPlant_78 v1_1 y_6 D_7) else (aGd (aIn y_6 64) (if gI D_7 25 y_6.toNatClampNeg = 0 then (J_X7_readPlant_78 v1_1 y_6 D_7) else ((f_X7_fail 5 D_7).bind (fun D_18 => J_X7_readPlant_78 v1_1 y_6 D_18)))))))))) else ((f_X7_fail 2 D).bind (fun D_19 => some D_19))
set_option maxRecDepth 100000 in
set_option maxHeartbeats 800000 in
theorem c_X7_readPlant {G : aG} (hG : gOK G) {shp : List aSh} (hS : aShp shp) {fr : Option Nat} {D : aD} {K : aD → Prop} (h : Ok (f_X7_readPlant D) K) : AC G (aRm 10 0 0) M_X7_readPlant [.ref 56] fr shp D (aQv shp K) := by
  unfold f_X7_readPlant at h
  refine AC.of (al := [some (.ref 56), none, none]) (r := 2) (by decide) (Nat.le_of_ble_eq_true rfl) rfl ?_
  have hJ_78 : ∀ (v1 : Int32) (v2 : Int32) (D : aD), Ok (J_X7_readPlant_78 v1 v2 D) K → AW G (aRm 10 0 0) M_X7_readPlant fr 0 0 78 [some (.ref 56), some (.int v1), some (.int v2)] [] shp D (aQv shp K) := by
    intro v1 v2 D h
    unfold J_X7_readPlant_78 at h
    refine aw_aload_n (n := 79) (i := 0) dX7_readPlant_78 rfl rfl rfl ?_
    refine aw_getR (n := 82) (j := 1) (r := 21) hG.1 fl_RX7_15 (sF_56 hS) rfl dX7_readPlant_79 rfl ?_
    refine aw_getR (n := 85) (j := 11) (r := 28) hG.1 fl_RX7_194 (sF_21 hS) rfl dX7_readPlant_82 rfl ?_
    refine aw_iload_n (n := 86) (i := 1) dX7_readPlant_85 rfl rfl rfl ?_
    refine aw_iload_n (n := 87) (i := 2) dX7_readPlant_86 rfl rfl rfl ?_
    obtain ⟨g_8, h⟩ := Ok.gd h
    obtain ⟨D_9, e_D_9, h⟩ := Ok.let_ h
    refine aw_iastore (n := 88) hG.1 (sF_28 hS) (aIn_in g_8) e_D_9 dX7_readPlant_87 rfl ?_
    refine aw_aload_n (n := 89) (i := 0) dX7_readPlant_88 rfl rfl rfl ?_
    refine aw_getR (n := 92) (j := 1) (r := 21) hG.1 fl_RX7_15 (sF_56 hS) rfl dX7_readPlant_89 rfl ?_
    refine aw_getR (n := 95) (j := 12) (r := 29) hG.1 fl_RX7_197 (sF_21 hS) rfl dX7_readPlant_92 rfl ?_
    refine aw_iload_n (n := 96) (i := 1) dX7_readPlant_95 rfl rfl rfl ?_
    refine aw_aload_n (n := 97) (i := 0) dX7_readPlant_96 rfl rfl rfl ?_
    refine aw_cVi (M := M_X7_readPlant) (n := 100) (As := []) (rest := [.int v1, .ref 29]) hG.1 lk_RX7_200 rfl rfl (sF_56 hS) (c_X7_owner hG hS (h := Ok.bi h)) (by decide) (Nat.le_of_ble_eq_true rfl) (by decide) (by decide) dX7_readPlant_97 rfl (fun y_10 D_11 h => ?_)
    obtain ⟨g_12, h⟩ := Ok.gd h
    obtain ⟨D_13, e_D_13, h⟩ := Ok.let_ h
    refine aw_iastore (n := 101) hG.1 (sF_29 hS) (aIn_in g_12) e_D_13 dX7_readPlant_100 rfl ?_
    refine aw_aload_n (n := 102) (i := 0) dX7_readPlant_101 rfl rfl rfl ?_
    refine aw_getR (n := 105) (j := 1) (r := 21) hG.1 fl_RX7_15 (sF_56 hS) rfl dX7_readPlant_102 rfl ?_
    refine aw_getR (n := 108) (j := 0) (r := 22) hG.1 fl_RX7_130 (sF_21 hS) rfl dX7_readPlant_105 rfl ?_
    refine aw_getR (n := 111) (j := 4) (r := 25) hG.1 fl_RX7_190 (sF_22 hS) rfl dX7_readPlant_108 rfl ?_
    refine aw_iload_n (n := 112) (i := 2) dX7_readPlant_111 rfl rfl rfl ?_
    refine aw_iconst (n := 113) (v := 1) dX7_readPlant_112 rfl (by decide) ?_
    obtain ⟨g_14, h⟩ := Ok.gd h
    obtain ⟨D_15, e_D_15, h⟩ := Ok.let_ h
    refine aw_zastore (n := 114) hG.1 (by decide) (sF_25 hS) (aIn_in g_14) e_D_15 dX7_readPlant_113 rfl ?_
    refine aw_aload_n (n := 115) (i := 0) dX7_readPlant_114 rfl rfl rfl ?_
    refine aw_getR (n := 118) (j := 1) (r := 21) hG.1 fl_RX7_15 (sF_56 hS) rfl dX7_readPlant_115 rfl ?_
    refine aw_dup (n := 119) dX7_readPlant_118 rfl rfl ?_
    refine aw_getI (n := 122) (j := 4) hG.1 fl_RX7_177 (sF_21 hS) rfl dX7_readPlant_119 rfl ?_
    refine aw_iconst (n := 123) (v := 1) dX7_readPlant_122 rfl (by decide) ?_
    refine aw_iadd (n := 124) dX7_readPlant_123 rfl ?_
    obtain ⟨D_16, e_D_16, h⟩ := Ok.let_ h
    refine aw_putI (n := 127) (j := 4) hG.1 fl_RX7_177 (sF_21 hS) rfl e_D_16 dX7_readPlant_124 rfl ?_
    exact aw_vret rfl (by decide) (by decide) dX7_readPlant_127 ⟨rfl, rfl, (Ok.dn h :)⟩
  refine aw_aload_n (n := 1) (i := 0) dX7_readPlant_0 rfl rfl rfl ?_
  refine aw_getR (n := 4) (j := 1) (r := 21) hG.1 fl_RX7_15 (sF_56 hS) rfl dX7_readPlant_1 rfl ?_
  refine aw_getI (n := 7) (j := 4) hG.1 fl_RX7_177 (sF_21 hS) rfl dX7_readPlant_4 rfl ?_
  refine aw_bipush (n := 9) (v := 12) dX7_readPlant_7 rfl (by decide) ?_
  refine aw_icmp_lt (n := 12) (tgt := 18) dX7_readPlant_9 rfl (by decide) (fun c => ?_) (fun c => ?_)
  · replace h := Ok.ift h c
    refine aw_aload_n (n := 19) (i := 0) dX7_readPlant_18 rfl rfl rfl ?_
    refine aw_getR (n := 22) (j := 1) (r := 21) hG.1 fl_RX7_15 (sF_56 hS) rfl dX7_readPlant_19 rfl ?_
    refine aw_getI (n := 25) (j := 4) hG.1 fl_RX7_177 (sF_21 hS) rfl dX7_readPlant_22 rfl ?_
    obtain ⟨v1_1, e_v1_1, h⟩ := Ok.let_ h
    refine aw_istore_n (n := 26) (i := 1) (al' := [some (.ref 56), some (.int v1_1), none]) dX7_readPlant_25 rfl rfl e_v1_1 (by decide) rfl ?_
    refine aw_aload_n (n := 27) (i := 0) dX7_readPlant_26 rfl rfl rfl ?_
    refine aw_getR (n := 30) (j := 1) (r := 21) hG.1 fl_RX7_15 (sF_56 hS) rfl dX7_readPlant_27 rfl ?_
    refine aw_getR (n := 33) (j := 10) (r := 27) hG.1 fl_RX7_180 (sF_21 hS) rfl dX7_readPlant_30 rfl ?_
    refine aw_iload_n (n := 34) (i := 1) dX7_readPlant_33 rfl rfl rfl ?_
    refine aw_aload_n (n := 35) (i := 0) dX7_readPlant_34 rfl rfl rfl ?_
    refine aw_aload_n (n := 36) (i := 0) dX7_readPlant_35 rfl rfl rfl ?_
    refine aw_getR (n := 39) (j := 1) (r := 21) hG.1 fl_RX7_15 (sF_56 hS) rfl dX7_readPlant_36 rfl ?_
    refine aw_getI (n := 42) (j := 2) hG.1 fl_RX7_140 (sF_21 hS) rfl dX7_readPlant_39 rfl ?_
    refine aw_cVi (M := M_X7_readPlant) (n := 45) (As := [.int (gI D 21 2)]) (rest := [.int v1_1, .ref 27]) hG.1 lk_RX7_183 rfl rfl (sF_56 hS) (c_X7_known hG hS (h := Ok.bi h)) (by decide) (Nat.le_of_ble_eq_true rfl) (by decide) (by decide) dX7_readPlant_42 rfl (fun y_2 D_3 h => ?_)
    obtain ⟨g_4, h⟩ := Ok.gd h
    obtain ⟨D_5, e_D_5, h⟩ := Ok.let_ h
    refine aw_iastore (n := 46) hG.1 (sF_27 hS) (aIn_in g_4) e_D_5 dX7_readPlant_45 rfl ?_
    refine aw_aload_n (n := 47) (i := 0) dX7_readPlant_46 rfl rfl rfl ?_
    refine aw_cVi (M := M_X7_readPlant) (n := 50) (As := []) (rest := []) hG.1 lk_RX7_186 rfl rfl (sF_56 hS) (c_X7_cell hG hS (h := Ok.bi h)) (by decide) (Nat.le_of_ble_eq_true rfl) (by decide) (by decide) dX7_readPlant_47 rfl (fun y_6 D_7 h => ?_)
    refine aw_istore_n (n := 51) (i := 2) (al' := [some (.ref 56), some (.int v1_1), some (.int y_6)]) dX7_readPlant_50 rfl rfl rfl (by decide) rfl ?_
    refine aw_aload_n (n := 52) (i := 0) dX7_readPlant_51 rfl rfl rfl ?_
    refine aw_getI (n := 55) (j := 7) hG.1 fl_RX7_35 (sF_56 hS) rfl dX7_readPlant_52 rfl ?_
    refine aw_if_ne (n := 58) (tgt := 78) dX7_readPlant_55 rfl (by decide) (fun c => ?_) (fun c => ?_)
    · replace h := Ok.ift h c
      exact aw_le' (hJ_78 v1_1 y_6 D_7 h) ⟨rfl, ⟨rfl, ⟨rfl, trivial⟩⟩⟩
    · replace h := Ok.iffn h c
      refine aw_aload_n (n := 59) (i := 0) dX7_readPlant_58 rfl rfl rfl ?_
      refine aw_getR (n := 62) (j := 1) (r := 21) hG.1 fl_RX7_15 (sF_56 hS) rfl dX7_readPlant_59 rfl ?_
      refine aw_getR (n := 65) (j := 0) (r := 22) hG.1 fl_RX7_130 (sF_21 hS) rfl dX7_readPlant_62 rfl ?_
      refine aw_getR (n := 68) (j := 4) (r := 25) hG.1 fl_RX7_190 (sF_22 hS) rfl dX7_readPlant_65 rfl ?_
      refine aw_iload_n (n := 69) (i := 2) dX7_readPlant_68 rfl rfl rfl ?_
      obtain ⟨g_17, h⟩ := Ok.gd h
      refine aw_zaload (n := 70) hG.1 (sF_25 hS) (aIn_in g_17) dX7_readPlant_69 rfl ?_
      refine aw_if_eq (n := 73) (tgt := 78) dX7_readPlant_70 rfl (by decide) (fun c => ?_) (fun c => ?_)
      · replace h := Ok.ift h c
        exact aw_le' (hJ_78 v1_1 y_6 D_7 h) ⟨rfl, ⟨rfl, ⟨rfl, trivial⟩⟩⟩
      · replace h := Ok.iff h c
        refine aw_aload_n (n := 74) (i := 0) dX7_readPlant_73 rfl rfl rfl ?_
        refine aw_iconst (n := 75) (v := 5) dX7_readPlant_74 rfl (by decide) ?_
        refine aw_cVv (M := M_X7_readPlant) (n := 78) (As := [.int 5]) (rest := []) hG.1 lk_RX7_124 rfl rfl (sF_56 hS) (c_X7_fail hG hS (h := Ok.bind h)) (by decide) (Nat.le_of_ble_eq_true rfl) (by decide) (by decide) dX7_readPlant_75 rfl (fun D_18 h => ?_)
        exact aw_le' (hJ_78 v1_1 y_6 D_18 h) ⟨rfl, ⟨rfl, ⟨rfl, trivial⟩⟩⟩
  · replace h := Ok.iff h c
    refine aw_aload_n (n := 13) (i := 0) dX7_readPlant_12 rfl rfl rfl ?_
    refine aw_iconst (n := 14) (v := 2) dX7_readPlant_13 rfl (by decide) ?_
    refine aw_cVv (M := M_X7_readPlant) (n := 17) (As := [.int 2]) (rest := []) hG.1 lk_RX7_124 rfl rfl (sF_56 hS) (c_X7_fail hG hS (h := Ok.bind h)) (by decide) (Nat.le_of_ble_eq_true rfl) (by decide) (by decide) dX7_readPlant_14 rfl (fun D_19 h => ?_)
    exact aw_vret rfl (by decide) (by decide) dX7_readPlant_17 ⟨rfl, rfl, (Ok.dn h :)⟩
theorem dX7_readGarden_0 : decode cX7_readGarden 0 = .ok (.aload_n 0, 1) := by decide +kernel
theorem dX7_readGarden_1 : decode cX7_readGarden 1 = .ok (.getfield 15, 3) := by decide +kernel
theorem dX7_readGarden_4 : decode cX7_readGarden 4 = .ok (.getfield 174, 3) := by decide +kernel
theorem dX7_readGarden_7 : decode cX7_readGarden 7 = .ok (.iconst 5, 1) := by decide +kernel
theorem dX7_readGarden_8 : decode cX7_readGarden 8 = .ok (.if_icmp .lt 9, 3) := by decide +kernel
theorem dX7_readGarden_11 : decode cX7_readGarden 11 = .ok (.aload_n 0, 1) := by decide +kernel
theorem dX7_readGarden_12 : decode cX7_readGarden 12 = .ok (.iconst 2, 1) := by decide +kernel
theorem dX7_readGarden_13 : decode cX7_readGarden 13 = .ok (.invokevirtual 124, 3) := by decide +kernel
theorem dX7_readGarden_16 : decode cX7_readGarden 16 = .ok (.return_, 1) := by decide +kernel
theorem dX7_readGarden_17 : decode cX7_readGarden 17 = .ok (.aload_n 0, 1) := by decide +kernel
theorem dX7_readGarden_18 : decode cX7_readGarden 18 = .ok (.invokevirtual 127, 3) := by decide +kernel
theorem dX7_readGarden_21 : decode cX7_readGarden 21 = .ok (.aload_n 0, 1) := by decide +kernel
theorem dX7_readGarden_22 : decode cX7_readGarden 22 = .ok (.getfield 15, 3) := by decide +kernel
theorem dX7_readGarden_25 : decode cX7_readGarden 25 = .ok (.dup, 1) := by decide +kernel
theorem dX7_readGarden_26 : decode cX7_readGarden 26 = .ok (.getfield 174, 3) := by decide +kernel
theorem dX7_readGarden_29 : decode cX7_readGarden 29 = .ok (.iconst 1, 1) := by decide +kernel
theorem dX7_readGarden_30 : decode cX7_readGarden 30 = .ok (.iadd, 1) := by decide +kernel
theorem dX7_readGarden_31 : decode cX7_readGarden 31 = .ok (.putfield 174, 3) := by decide +kernel
theorem dX7_readGarden_34 : decode cX7_readGarden 34 = .ok (.return_, 1) := by decide +kernel
def f_X7_readGarden (D : aD) : Option (aD) :=
  if gI D 21 3 < 5 then ((f_X7_close D).bind (fun D_1 => aLet (pI D_1 21 3 ((gI D_1 21 3) + 1)) (fun D_2 => some D_2))) else ((f_X7_fail 2 D).bind (fun D_3 => some D_3))
set_option maxRecDepth 100000 in
set_option maxHeartbeats 800000 in
theorem c_X7_readGarden {G : aG} (hG : gOK G) {shp : List aSh} (hS : aShp shp) {fr : Option Nat} {D : aD} {K : aD → Prop} (h : Ok (f_X7_readGarden D) K) : AC G (aRm 4 0 0) M_X7_readGarden [.ref 56] fr shp D (aQv shp K) := by
  unfold f_X7_readGarden at h
  refine AC.of (al := [some (.ref 56)]) (r := 0) (by decide) (Nat.le_of_ble_eq_true rfl) rfl ?_
  refine aw_aload_n (n := 1) (i := 0) dX7_readGarden_0 rfl rfl rfl ?_
  refine aw_getR (n := 4) (j := 1) (r := 21) hG.1 fl_RX7_15 (sF_56 hS) rfl dX7_readGarden_1 rfl ?_
  refine aw_getI (n := 7) (j := 3) hG.1 fl_RX7_174 (sF_21 hS) rfl dX7_readGarden_4 rfl ?_
  refine aw_iconst (n := 8) (v := 5) dX7_readGarden_7 rfl (by decide) ?_
  refine aw_icmp_lt (n := 11) (tgt := 17) dX7_readGarden_8 rfl (by decide) (fun c => ?_) (fun c => ?_)
  · replace h := Ok.ift h c
    refine aw_aload_n (n := 18) (i := 0) dX7_readGarden_17 rfl rfl rfl ?_
    refine aw_cVv (M := M_X7_readGarden) (n := 21) (As := []) (rest := []) hG.1 lk_RX7_127 rfl rfl (sF_56 hS) (c_X7_close hG hS (h := Ok.bind h)) (by decide) (Nat.le_of_ble_eq_true rfl) (by decide) (by decide) dX7_readGarden_18 rfl (fun D_1 h => ?_)
    refine aw_aload_n (n := 22) (i := 0) dX7_readGarden_21 rfl rfl rfl ?_
    refine aw_getR (n := 25) (j := 1) (r := 21) hG.1 fl_RX7_15 (sF_56 hS) rfl dX7_readGarden_22 rfl ?_
    refine aw_dup (n := 26) dX7_readGarden_25 rfl rfl ?_
    refine aw_getI (n := 29) (j := 3) hG.1 fl_RX7_174 (sF_21 hS) rfl dX7_readGarden_26 rfl ?_
    refine aw_iconst (n := 30) (v := 1) dX7_readGarden_29 rfl (by decide) ?_
    refine aw_iadd (n := 31) dX7_readGarden_30 rfl ?_
    obtain ⟨D_2, e_D_2, h⟩ := Ok.let_ h
    refine aw_putI (n := 34) (j := 3) hG.1 fl_RX7_174 (sF_21 hS) rfl e_D_2 dX7_readGarden_31 rfl ?_
    exact aw_vret rfl (by decide) (by decide) dX7_readGarden_34 ⟨rfl, rfl, (Ok.dn h :)⟩
  · replace h := Ok.iff h c
    refine aw_aload_n (n := 12) (i := 0) dX7_readGarden_11 rfl rfl rfl ?_
    refine aw_iconst (n := 13) (v := 2) dX7_readGarden_12 rfl (by decide) ?_
    refine aw_cVv (M := M_X7_readGarden) (n := 16) (As := [.int 2]) (rest := []) hG.1 lk_RX7_124 rfl rfl (sF_56 hS) (c_X7_fail hG hS (h := Ok.bind h)) (by decide) (Nat.le_of_ble_eq_true rfl) (by decide) (by decide) dX7_readGarden_13 rfl (fun D_3 h => ?_)
    exact aw_vret rfl (by decide) (by decide) dX7_readGarden_16 ⟨rfl, rfl, (Ok.dn h :)⟩
theorem dX7_signed_0 : decode cX7_signed 0 = .ok (.aload_n 0, 1) := by decide +kernel
theorem dX7_signed_1 : decode cX7_signed 1 = .ok (.getfield 35, 3) := by decide +kernel
theorem dX7_signed_4 : decode cX7_signed 4 = .ok (.ifCond .eq 5, 3) := by decide +kernel
theorem dX7_signed_7 : decode cX7_signed 7 = .ok (.iconst 0, 1) := by decide +kernel
theorem dX7_signed_8 : decode cX7_signed 8 = .ok (.ireturn, 1) := by decide +kernel
theorem dX7_signed_9 : decode cX7_signed 9 = .ok (.aload_n 0, 1) := by decide +kernel
theorem dX7_signed_10 : decode cX7_signed 10 = .ok (.invokevirtual 46, 3) := by decide +kernel
theorem dX7_signed_13 : decode cX7_signed 13 = .ok (.aload_n 0, 1) := by decide +kernel
theorem dX7_signed_14 : decode cX7_signed 14 = .ok (.getfield 49, 3) := by decide +kernel
theorem dX7_signed_17 : decode cX7_signed 17 = .ok (.iconst 4, 1) := by decide +kernel
theorem dX7_signed_18 : decode cX7_signed 18 = .ok (.if_icmp .eq 10, 3) := by decide +kernel
theorem dX7_signed_21 : decode cX7_signed 21 = .ok (.aload_n 0, 1) := by decide +kernel
theorem dX7_signed_22 : decode cX7_signed 22 = .ok (.iconst 0, 1) := by decide +kernel
theorem dX7_signed_23 : decode cX7_signed 23 = .ok (.iload_n 1, 1) := by decide +kernel
theorem dX7_signed_24 : decode cX7_signed 24 = .ok (.invokevirtual 226, 3) := by decide +kernel
theorem dX7_signed_27 : decode cX7_signed 27 = .ok (.ireturn, 1) := by decide +kernel
theorem dX7_signed_28 : decode cX7_signed 28 = .ok (.aload_n 0, 1) := by decide +kernel
theorem dX7_signed_29 : decode cX7_signed 29 = .ok (.iconst 0, 1) := by decide +kernel
theorem dX7_signed_30 : decode cX7_signed 30 = .ok (.iload_n 1, 1) := by decide +kernel
theorem dX7_signed_31 : decode cX7_signed 31 = .ok (.invokevirtual 101, 3) := by decide +kernel
theorem dX7_signed_34 : decode cX7_signed 34 = .ok (.ineg, 1) := by decide +kernel
theorem dX7_signed_35 : decode cX7_signed 35 = .ok (.ireturn, 1) := by decide +kernel
def f_X7_signed (v1 : Int32) (D : aD) : Option (Int32 × aD) :=
  if gI D 56 7 = 0 then ((f_X7_take D).bind (fun D_1 => if gI D_1 56 3 = 4 then (aBi (f_X7_number 0 v1 D_1) (fun y_2 D_3 => some (-y_2, D_3))) else (aBi (f_X7_numberHere 0 v1 D_1) (fun y_4 D_5 => some (y_4, D_5))))) else (some (0, D))
set_option maxRecDepth 100000 in
set_option maxHeartbeats 800000 in
theorem c_X7_signed {G : aG} (hG : gOK G) {shp : List aSh} (hS : aShp shp) {fr : Option Nat} {v1 : Int32} {D : aD} {K : Int32 → aD → Prop} (h : Ok2 (f_X7_signed v1 D) K) : AC G (aRm 4 0 0) M_X7_signed [.ref 56, .int v1] fr shp D (aQi shp K) := by
  replace h := Ok2.ok h
  unfold f_X7_signed at h
  refine AC.of (al := [some (.ref 56), some (.int v1)]) (r := 0) (by decide) (Nat.le_of_ble_eq_true rfl) rfl ?_
  refine aw_aload_n (n := 1) (i := 0) dX7_signed_0 rfl rfl rfl ?_
  refine aw_getI (n := 4) (j := 7) hG.1 fl_RX7_35 (sF_56 hS) rfl dX7_signed_1 rfl ?_
  refine aw_if_eq (n := 7) (tgt := 9) dX7_signed_4 rfl (by decide) (fun c => ?_) (fun c => ?_)
  · replace h := Ok.ift h c
    refine aw_aload_n (n := 10) (i := 0) dX7_signed_9 rfl rfl rfl ?_
    refine aw_cVv (M := M_X7_signed) (n := 13) (As := []) (rest := []) hG.1 lk_RX7_46 rfl rfl (sF_56 hS) (c_X7_take hG hS (h := Ok.bind h)) (by decide) (Nat.le_of_ble_eq_true rfl) (by decide) (by decide) dX7_signed_10 rfl (fun D_1 h => ?_)
    refine aw_aload_n (n := 14) (i := 0) dX7_signed_13 rfl rfl rfl ?_
    refine aw_getI (n := 17) (j := 3) hG.1 fl_RX7_49 (sF_56 hS) rfl dX7_signed_14 rfl ?_
    refine aw_iconst (n := 18) (v := 4) dX7_signed_17 rfl (by decide) ?_
    refine aw_icmp_eq (n := 21) (tgt := 28) dX7_signed_18 rfl (by decide) (fun c => ?_) (fun c => ?_)
    · replace h := Ok.ift h c
      refine aw_aload_n (n := 29) (i := 0) dX7_signed_28 rfl rfl rfl ?_
      refine aw_iconst (n := 30) (v := 0) dX7_signed_29 rfl (by decide) ?_
      refine aw_iload_n (n := 31) (i := 1) dX7_signed_30 rfl rfl rfl ?_
      refine aw_cVi (M := M_X7_signed) (n := 34) (As := [.int 0, .int v1]) (rest := []) hG.1 lk_RX7_101 rfl rfl (sF_56 hS) (c_X7_number hG hS (h := Ok.bi h)) (by decide) (Nat.le_of_ble_eq_true rfl) (by decide) (by decide) dX7_signed_31 rfl (fun y_2 D_3 h => ?_)
      refine aw_ineg (n := 35) dX7_signed_34 rfl ?_
      exact aw_iret rfl (by decide) (by decide) dX7_signed_35 ⟨_, rfl, rfl, (Ok.dn h :)⟩
    · replace h := Ok.iff h c
      refine aw_aload_n (n := 22) (i := 0) dX7_signed_21 rfl rfl rfl ?_
      refine aw_iconst (n := 23) (v := 0) dX7_signed_22 rfl (by decide) ?_
      refine aw_iload_n (n := 24) (i := 1) dX7_signed_23 rfl rfl rfl ?_
      refine aw_cVi (M := M_X7_signed) (n := 27) (As := [.int 0, .int v1]) (rest := []) hG.1 lk_RX7_226 rfl rfl (sF_56 hS) (c_X7_numberHere hG hS (h := Ok.bi h)) (by decide) (Nat.le_of_ble_eq_true rfl) (by decide) (by decide) dX7_signed_24 rfl (fun y_4 D_5 h => ?_)
      exact aw_iret rfl (by decide) (by decide) dX7_signed_27 ⟨_, rfl, rfl, (Ok.dn h :)⟩
  · replace h := Ok.iff h c
    refine aw_iconst (n := 8) (v := 0) dX7_signed_7 rfl (by decide) ?_
    exact aw_iret rfl (by decide) (by decide) dX7_signed_8 ⟨_, rfl, rfl, (Ok.dn h :)⟩
theorem dX7_readSort_0 : decode cX7_readSort 0 = .ok (.aload_n 0, 1) := by decide +kernel
theorem dX7_readSort_1 : decode cX7_readSort 1 = .ok (.getfield 15, 3) := by decide +kernel
theorem dX7_readSort_4 : decode cX7_readSort 4 = .ok (.getfield 140, 3) := by decide +kernel
theorem dX7_readSort_7 : decode cX7_readSort 7 = .ok (.bipush 6, 2) := by decide +kernel
theorem dX7_readSort_9 : decode cX7_readSort 9 = .ok (.if_icmp .lt 9, 3) := by decide +kernel
theorem dX7_readSort_12 : decode cX7_readSort 12 = .ok (.aload_n 0, 1) := by decide +kernel
theorem dX7_readSort_13 : decode cX7_readSort 13 = .ok (.iconst 2, 1) := by decide +kernel
theorem dX7_readSort_14 : decode cX7_readSort 14 = .ok (.invokevirtual 124, 3) := by decide +kernel
theorem dX7_readSort_17 : decode cX7_readSort 17 = .ok (.return_, 1) := by decide +kernel
theorem dX7_readSort_18 : decode cX7_readSort 18 = .ok (.aload_n 0, 1) := by decide +kernel
theorem dX7_readSort_19 : decode cX7_readSort 19 = .ok (.getfield 15, 3) := by decide +kernel
theorem dX7_readSort_22 : decode cX7_readSort 22 = .ok (.getfield 143, 3) := by decide +kernel
theorem dX7_readSort_25 : decode cX7_readSort 25 = .ok (.aload_n 0, 1) := by decide +kernel
theorem dX7_readSort_26 : decode cX7_readSort 26 = .ok (.getfield 15, 3) := by decide +kernel
theorem dX7_readSort_29 : decode cX7_readSort 29 = .ok (.getfield 140, 3) := by decide +kernel
theorem dX7_readSort_32 : decode cX7_readSort 32 = .ok (.aaload, 1) := by decide +kernel
theorem dX7_readSort_33 : decode cX7_readSort 33 = .ok (.astore_n 2, 1) := by decide +kernel
theorem dX7_readSort_34 : decode cX7_readSort 34 = .ok (.aload_n 2, 1) := by decide +kernel
theorem dX7_readSort_35 : decode cX7_readSort 35 = .ok (.iload_n 1, 1) := by decide +kernel
theorem dX7_readSort_36 : decode cX7_readSort 36 = .ok (.putfield 147, 3) := by decide +kernel
theorem dX7_readSort_39 : decode cX7_readSort 39 = .ok (.aload_n 2, 1) := by decide +kernel
theorem dX7_readSort_40 : decode cX7_readSort 40 = .ok (.aload_n 0, 1) := by decide +kernel
theorem dX7_readSort_41 : decode cX7_readSort 41 = .ok (.iconst 1, 1) := by decide +kernel
theorem dX7_readSort_42 : decode cX7_readSort 42 = .ok (.bipush 99, 2) := by decide +kernel
theorem dX7_readSort_44 : decode cX7_readSort 44 = .ok (.invokevirtual 101, 3) := by decide +kernel
theorem dX7_readSort_47 : decode cX7_readSort 47 = .ok (.putfield 152, 3) := by decide +kernel
theorem dX7_readSort_50 : decode cX7_readSort 50 = .ok (.aload_n 2, 1) := by decide +kernel
theorem dX7_readSort_51 : decode cX7_readSort 51 = .ok (.aload_n 0, 1) := by decide +kernel
theorem dX7_readSort_52 : decode cX7_readSort 52 = .ok (.iconst 0, 1) := by decide +kernel
theorem dX7_readSort_53 : decode cX7_readSort 53 = .ok (.bipush 51, 2) := by decide +kernel
theorem dX7_readSort_55 : decode cX7_readSort 55 = .ok (.invokevirtual 101, 3) := by decide +kernel
theorem dX7_readSort_58 : decode cX7_readSort 58 = .ok (.putfield 155, 3) := by decide +kernel
theorem dX7_readSort_61 : decode cX7_readSort 61 = .ok (.aload_n 2, 1) := by decide +kernel
theorem dX7_readSort_62 : decode cX7_readSort 62 = .ok (.aload_n 0, 1) := by decide +kernel
theorem dX7_readSort_63 : decode cX7_readSort 63 = .ok (.aload_n 2, 1) := by decide +kernel
theorem dX7_readSort_64 : decode cX7_readSort 64 = .ok (.getfield 155, 3) := by decide +kernel
theorem dX7_readSort_67 : decode cX7_readSort 67 = .ok (.bipush 51, 2) := by decide +kernel
theorem dX7_readSort_69 : decode cX7_readSort 69 = .ok (.invokevirtual 101, 3) := by decide +kernel
theorem dX7_readSort_72 : decode cX7_readSort 72 = .ok (.putfield 158, 3) := by decide +kernel
theorem dX7_readSort_75 : decode cX7_readSort 75 = .ok (.aload_n 2, 1) := by decide +kernel
theorem dX7_readSort_76 : decode cX7_readSort 76 = .ok (.aload_n 0, 1) := by decide +kernel
theorem dX7_readSort_77 : decode cX7_readSort 77 = .ok (.iconst 0, 1) := by decide +kernel
theorem dX7_readSort_78 : decode cX7_readSort 78 = .ok (.bipush 23, 2) := by decide +kernel
theorem dX7_readSort_80 : decode cX7_readSort 80 = .ok (.invokevirtual 101, 3) := by decide +kernel
theorem dX7_readSort_83 : decode cX7_readSort 83 = .ok (.putfield 161, 3) := by decide +kernel
theorem dX7_readSort_86 : decode cX7_readSort 86 = .ok (.aload_n 2, 1) := by decide +kernel
theorem dX7_readSort_87 : decode cX7_readSort 87 = .ok (.aload_n 0, 1) := by decide +kernel
theorem dX7_readSort_88 : decode cX7_readSort 88 = .ok (.aload_n 2, 1) := by decide +kernel
theorem dX7_readSort_89 : decode cX7_readSort 89 = .ok (.getfield 161, 3) := by decide +kernel
theorem dX7_readSort_92 : decode cX7_readSort 92 = .ok (.bipush 23, 2) := by decide +kernel
theorem dX7_readSort_94 : decode cX7_readSort 94 = .ok (.invokevirtual 101, 3) := by decide +kernel
theorem dX7_readSort_97 : decode cX7_readSort 97 = .ok (.putfield 164, 3) := by decide +kernel
theorem dX7_readSort_100 : decode cX7_readSort 100 = .ok (.aload_n 2, 1) := by decide +kernel
theorem dX7_readSort_101 : decode cX7_readSort 101 = .ok (.aload_n 0, 1) := by decide +kernel
theorem dX7_readSort_102 : decode cX7_readSort 102 = .ok (.bipush 9, 2) := by decide +kernel
theorem dX7_readSort_104 : decode cX7_readSort 104 = .ok (.invokevirtual 167, 3) := by decide +kernel
theorem dX7_readSort_107 : decode cX7_readSort 107 = .ok (.putfield 171, 3) := by decide +kernel
theorem dX7_readSort_110 : decode cX7_readSort 110 = .ok (.aload_n 0, 1) := by decide +kernel
theorem dX7_readSort_111 : decode cX7_readSort 111 = .ok (.invokevirtual 127, 3) := by decide +kernel
theorem dX7_readSort_114 : decode cX7_readSort 114 = .ok (.aload_n 0, 1) := by decide +kernel
theorem dX7_readSort_115 : decode cX7_readSort 115 = .ok (.getfield 15, 3) := by decide +kernel
theorem dX7_readSort_118 : decode cX7_readSort 118 = .ok (.dup, 1) := by decide +kernel
theorem dX7_readSort_119 : decode cX7_readSort 119 = .ok (.getfield 140, 3) := by decide +kernel
theorem dX7_readSort_122 : decode cX7_readSort 122 = .ok (.iconst 1, 1) := by decide +kernel
theorem dX7_readSort_123 : decode cX7_readSort 123 = .ok (.iadd, 1) := by decide +kernel
theorem dX7_readSort_124 : decode cX7_readSort 124 = .ok (.putfield 140, 3) := by decide +kernel
theorem dX7_readSort_127 : decode cX7_readSort 127 = .ok (.return_, 1) := by decide +kernel
def f_X7_readSort (v1 : Int32) (D : aD) : Option (aD) :=
  if gI D 21 2 < 6 then (aGd (aIn (gI D 21 2) 6) (aGd (aZ v1) (aLet (pI D (34 + (gI D 21 2).toNatClampNeg) 6 v1) (fun D_3 => aBi (f_X7_number 1 99 D_3) (fun y_4 D_5 => aLet (pI D_5 (34 + (gI D 21 2).toNatClampNeg) 0 y_4) (fun D_6 => aBi (f_X7_number 0 51 D_6) (fun y_7 D_8 => aLet (pI D_8 (34 + (gI D 21 2).toNatClampNeg) 1 y_7) (fun D_9 => aBi (f_X7_number (gI D_9 (34 + (gI D 21 2).toNatClampNeg) 1) 51 D_9) (fun y_10 D_11 => aLet (pI D_11 (34 + (gI D 21 2).toNatClampNeg) 2 y_10) (fun D_12 => aBi (f_X7_number 0 23 D_12) (fun y_13 D_14 => aLet (pI D_14 (34 + (gI D 21 2).toNatClampNeg) 3 y_13) (fun D_15 => aBi (f_X7_number (gI D_15 (34 + (gI D 21 2).toNatClampNeg) 3) 23 D_15) (fun y_16 D_17 => aLet (pI D_17 (34 + (gI D 21 2).toNatClampNeg) 4 y_16) (fun D_18 => aBi (f_X7_signed 9 D_18) (fun y_19 D_20 => aLet (pI D_20 (34 + (gI D 21 2).toNatClampNeg) 5 y_19) (fun D_21 => (f_X7_close D_21).bind (fun D_22 => aLet (pI D_22 21 2 ((gI D_22 21 2) + 1)) (fun D_23 => some D_23)))))))))))))))))) else ((f_X7_fail 2 D).bind (fun D_24 => some D_24))
set_option maxRecDepth 100000 in
set_option maxHeartbeats 800000 in
theorem c_X7_readSort {G : aG} (hG : gOK G) {shp : List aSh} (hS : aShp shp) {fr : Option Nat} {v1 : Int32} {D : aD} {K : aD → Prop} (h : Ok (f_X7_readSort v1 D) K) : AC G (aRm 5 0 0) M_X7_readSort [.ref 56, .int v1] fr shp D (aQv shp K) := by
  unfold f_X7_readSort at h
  refine AC.of (al := [some (.ref 56), some (.int v1), none]) (r := 1) (by decide) (Nat.le_of_ble_eq_true rfl) rfl ?_
  refine aw_aload_n (n := 1) (i := 0) dX7_readSort_0 rfl rfl rfl ?_
  refine aw_getR (n := 4) (j := 1) (r := 21) hG.1 fl_RX7_15 (sF_56 hS) rfl dX7_readSort_1 rfl ?_
  refine aw_getI (n := 7) (j := 2) hG.1 fl_RX7_140 (sF_21 hS) rfl dX7_readSort_4 rfl ?_
  refine aw_bipush (n := 9) (v := 6) dX7_readSort_7 rfl (by decide) ?_
  refine aw_icmp_lt (n := 12) (tgt := 18) dX7_readSort_9 rfl (by decide) (fun c => ?_) (fun c => ?_)
  · replace h := Ok.ift h c
    refine aw_aload_n (n := 19) (i := 0) dX7_readSort_18 rfl rfl rfl ?_
    refine aw_getR (n := 22) (j := 1) (r := 21) hG.1 fl_RX7_15 (sF_56 hS) rfl dX7_readSort_19 rfl ?_
    refine aw_getR (n := 25) (j := 1) (r := 26) hG.1 fl_RX7_143 (sF_21 hS) rfl dX7_readSort_22 rfl ?_
    refine aw_aload_n (n := 26) (i := 0) dX7_readSort_25 rfl rfl rfl ?_
    refine aw_getR (n := 29) (j := 1) (r := 21) hG.1 fl_RX7_15 (sF_56 hS) rfl dX7_readSort_26 rfl ?_
    refine aw_getI (n := 32) (j := 2) hG.1 fl_RX7_140 (sF_21 hS) rfl dX7_readSort_29 rfl ?_
    obtain ⟨g_1, h⟩ := Ok.gd h
    refine aw_aaload (n := 33) (t := 4) (r := (34 + (gI D 21 2).toNatClampNeg)) hG.1 (by decide) rfl (sF_26 hS) (aIn_in g_1) (rs_26 (aIn_lt g_1)) dX7_readSort_32 rfl ?_
    refine aw_astore_n (n := 34) (i := 2) (al' := [some (.ref 56), some (.int v1), some (.ref (34 + (gI D 21 2).toNatClampNeg))]) dX7_readSort_33 rfl rfl rfl (by decide) rfl ?_
    refine aw_aload_n (n := 35) (i := 2) dX7_readSort_34 rfl rfl rfl ?_
    refine aw_iload_n (n := 36) (i := 1) dX7_readSort_35 rfl rfl rfl ?_
    obtain ⟨g_2, h⟩ := Ok.gd h
    obtain ⟨D_3, e_D_3, h⟩ := Ok.let_ h
    refine aw_putZ (n := 39) (j := 6) hG.1 fl_RX7_147 (aZ_or g_2) (so_34 hS (aIn_lt g_1)) rfl e_D_3 dX7_readSort_36 rfl ?_
    refine aw_aload_n (n := 40) (i := 2) dX7_readSort_39 rfl rfl rfl ?_
    refine aw_aload_n (n := 41) (i := 0) dX7_readSort_40 rfl rfl rfl ?_
    refine aw_iconst (n := 42) (v := 1) dX7_readSort_41 rfl (by decide) ?_
    refine aw_bipush (n := 44) (v := 99) dX7_readSort_42 rfl (by decide) ?_
    refine aw_cVi (M := M_X7_readSort) (n := 47) (As := [.int 1, .int 99]) (rest := [.ref (34 + (gI D 21 2).toNatClampNeg)]) hG.1 lk_RX7_101 rfl rfl (sF_56 hS) (c_X7_number hG hS (h := Ok.bi h)) (by decide) (Nat.le_of_ble_eq_true rfl) (by decide) (by decide) dX7_readSort_44 rfl (fun y_4 D_5 h => ?_)
    obtain ⟨D_6, e_D_6, h⟩ := Ok.let_ h
    refine aw_putI (n := 50) (j := 0) hG.1 fl_RX7_152 (so_34 hS (aIn_lt g_1)) rfl e_D_6 dX7_readSort_47 rfl ?_
    refine aw_aload_n (n := 51) (i := 2) dX7_readSort_50 rfl rfl rfl ?_
    refine aw_aload_n (n := 52) (i := 0) dX7_readSort_51 rfl rfl rfl ?_
    refine aw_iconst (n := 53) (v := 0) dX7_readSort_52 rfl (by decide) ?_
    refine aw_bipush (n := 55) (v := 51) dX7_readSort_53 rfl (by decide) ?_
    refine aw_cVi (M := M_X7_readSort) (n := 58) (As := [.int 0, .int 51]) (rest := [.ref (34 + (gI D 21 2).toNatClampNeg)]) hG.1 lk_RX7_101 rfl rfl (sF_56 hS) (c_X7_number hG hS (h := Ok.bi h)) (by decide) (Nat.le_of_ble_eq_true rfl) (by decide) (by decide) dX7_readSort_55 rfl (fun y_7 D_8 h => ?_)
    obtain ⟨D_9, e_D_9, h⟩ := Ok.let_ h
    refine aw_putI (n := 61) (j := 1) hG.1 fl_RX7_155 (so_34 hS (aIn_lt g_1)) rfl e_D_9 dX7_readSort_58 rfl ?_
    refine aw_aload_n (n := 62) (i := 2) dX7_readSort_61 rfl rfl rfl ?_
    refine aw_aload_n (n := 63) (i := 0) dX7_readSort_62 rfl rfl rfl ?_
    refine aw_aload_n (n := 64) (i := 2) dX7_readSort_63 rfl rfl rfl ?_
    refine aw_getI (n := 67) (j := 1) hG.1 fl_RX7_155 (so_34 hS (aIn_lt g_1)) rfl dX7_readSort_64 rfl ?_
    refine aw_bipush (n := 69) (v := 51) dX7_readSort_67 rfl (by decide) ?_
    refine aw_cVi (M := M_X7_readSort) (n := 72) (As := [.int (gI D_9 (34 + (gI D 21 2).toNatClampNeg) 1), .int 51]) (rest := [.ref (34 + (gI D 21 2).toNatClampNeg)]) hG.1 lk_RX7_101 rfl rfl (sF_56 hS) (c_X7_number hG hS (h := Ok.bi h)) (by decide) (Nat.le_of_ble_eq_true rfl) (by decide) (by decide) dX7_readSort_69 rfl (fun y_10 D_11 h => ?_)
    obtain ⟨D_12, e_D_12, h⟩ := Ok.let_ h
    refine aw_putI (n := 75) (j := 2) hG.1 fl_RX7_158 (so_34 hS (aIn_lt g_1)) rfl e_D_12 dX7_readSort_72 rfl ?_
    refine aw_aload_n (n := 76) (i := 2) dX7_readSort_75 rfl rfl rfl ?_
    refine aw_aload_n (n := 77) (i := 0) dX7_readSort_76 rfl rfl rfl ?_
    refine aw_iconst (n := 78) (v := 0) dX7_readSort_77 rfl (by decide) ?_
    refine aw_bipush (n := 80) (v := 23) dX7_readSort_78 rfl (by decide) ?_
    refine aw_cVi (M := M_X7_readSort) (n := 83) (As := [.int 0, .int 23]) (rest := [.ref (34 + (gI D 21 2).toNatClampNeg)]) hG.1 lk_RX7_101 rfl rfl (sF_56 hS) (c_X7_number hG hS (h := Ok.bi h)) (by decide) (Nat.le_of_ble_eq_true rfl) (by decide) (by decide) dX7_readSort_80 rfl (fun y_13 D_14 h => ?_)
    obtain ⟨D_15, e_D_15, h⟩ := Ok.let_ h
    refine aw_putI (n := 86) (j := 3) hG.1 fl_RX7_161 (so_34 hS (aIn_lt g_1)) rfl e_D_15 dX7_readSort_83 rfl ?_
    refine aw_aload_n (n := 87) (i := 2) dX7_readSort_86 rfl rfl rfl ?_
    refine aw_aload_n (n := 88) (i := 0) dX7_readSort_87 rfl rfl rfl ?_
    refine aw_aload_n (n := 89) (i := 2) dX7_readSort_88 rfl rfl rfl ?_
    refine aw_getI (n := 92) (j := 3) hG.1 fl_RX7_161 (so_34 hS (aIn_lt g_1)) rfl dX7_readSort_89 rfl ?_
    refine aw_bipush (n := 94) (v := 23) dX7_readSort_92 rfl (by decide) ?_
    refine aw_cVi (M := M_X7_readSort) (n := 97) (As := [.int (gI D_15 (34 + (gI D 21 2).toNatClampNeg) 3), .int 23]) (rest := [.ref (34 + (gI D 21 2).toNatClampNeg)]) hG.1 lk_RX7_101 rfl rfl (sF_56 hS) (c_X7_number hG hS (h := Ok.bi h)) (by decide) (Nat.le_of_ble_eq_true rfl) (by decide) (by decide) dX7_readSort_94 rfl (fun y_16 D_17 h => ?_)
    obtain ⟨D_18, e_D_18, h⟩ := Ok.let_ h
    refine aw_putI (n := 100) (j := 4) hG.1 fl_RX7_164 (so_34 hS (aIn_lt g_1)) rfl e_D_18 dX7_readSort_97 rfl ?_
    refine aw_aload_n (n := 101) (i := 2) dX7_readSort_100 rfl rfl rfl ?_
    refine aw_aload_n (n := 102) (i := 0) dX7_readSort_101 rfl rfl rfl ?_
    refine aw_bipush (n := 104) (v := 9) dX7_readSort_102 rfl (by decide) ?_
    refine aw_cVi (M := M_X7_readSort) (n := 107) (As := [.int 9]) (rest := [.ref (34 + (gI D 21 2).toNatClampNeg)]) hG.1 lk_RX7_167 rfl rfl (sF_56 hS) (c_X7_signed hG hS (h := Ok.bi h)) (by decide) (Nat.le_of_ble_eq_true rfl) (by decide) (by decide) dX7_readSort_104 rfl (fun y_19 D_20 h => ?_)
    obtain ⟨D_21, e_D_21, h⟩ := Ok.let_ h
    refine aw_putI (n := 110) (j := 5) hG.1 fl_RX7_171 (so_34 hS (aIn_lt g_1)) rfl e_D_21 dX7_readSort_107 rfl ?_
    refine aw_aload_n (n := 111) (i := 0) dX7_readSort_110 rfl rfl rfl ?_
    refine aw_cVv (M := M_X7_readSort) (n := 114) (As := []) (rest := []) hG.1 lk_RX7_127 rfl rfl (sF_56 hS) (c_X7_close hG hS (h := Ok.bind h)) (by decide) (Nat.le_of_ble_eq_true rfl) (by decide) (by decide) dX7_readSort_111 rfl (fun D_22 h => ?_)
    refine aw_aload_n (n := 115) (i := 0) dX7_readSort_114 rfl rfl rfl ?_
    refine aw_getR (n := 118) (j := 1) (r := 21) hG.1 fl_RX7_15 (sF_56 hS) rfl dX7_readSort_115 rfl ?_
    refine aw_dup (n := 119) dX7_readSort_118 rfl rfl ?_
    refine aw_getI (n := 122) (j := 2) hG.1 fl_RX7_140 (sF_21 hS) rfl dX7_readSort_119 rfl ?_
    refine aw_iconst (n := 123) (v := 1) dX7_readSort_122 rfl (by decide) ?_
    refine aw_iadd (n := 124) dX7_readSort_123 rfl ?_
    obtain ⟨D_23, e_D_23, h⟩ := Ok.let_ h
    refine aw_putI (n := 127) (j := 2) hG.1 fl_RX7_140 (sF_21 hS) rfl e_D_23 dX7_readSort_124 rfl ?_
    exact aw_vret rfl (by decide) (by decide) dX7_readSort_127 ⟨rfl, rfl, (Ok.dn h :)⟩
  · replace h := Ok.iff h c
    refine aw_aload_n (n := 13) (i := 0) dX7_readSort_12 rfl rfl rfl ?_
    refine aw_iconst (n := 14) (v := 2) dX7_readSort_13 rfl (by decide) ?_
    refine aw_cVv (M := M_X7_readSort) (n := 17) (As := [.int 2]) (rest := []) hG.1 lk_RX7_124 rfl rfl (sF_56 hS) (c_X7_fail hG hS (h := Ok.bind h)) (by decide) (Nat.le_of_ble_eq_true rfl) (by decide) (by decide) dX7_readSort_14 rfl (fun D_24 h => ?_)
    exact aw_vret rfl (by decide) (by decide) dX7_readSort_17 ⟨rfl, rfl, (Ok.dn h :)⟩
theorem dX7_readTown_0 : decode cX7_readTown 0 = .ok (.iload_n 1, 1) := by decide +kernel
theorem dX7_readTown_1 : decode cX7_readTown 1 = .ok (.ifCond .ne 8, 3) := by decide +kernel
theorem dX7_readTown_4 : decode cX7_readTown 4 = .ok (.aload_n 0, 1) := by decide +kernel
theorem dX7_readTown_5 : decode cX7_readTown 5 = .ok (.iconst 4, 1) := by decide +kernel
theorem dX7_readTown_6 : decode cX7_readTown 6 = .ok (.invokevirtual 124, 3) := by decide +kernel
theorem dX7_readTown_9 : decode cX7_readTown 9 = .ok (.aload_n 0, 1) := by decide +kernel
theorem dX7_readTown_10 : decode cX7_readTown 10 = .ok (.iconst 2, 1) := by decide +kernel
theorem dX7_readTown_11 : decode cX7_readTown 11 = .ok (.bipush 8, 2) := by decide +kernel
theorem dX7_readTown_13 : decode cX7_readTown 13 = .ok (.invokevirtual 101, 3) := by decide +kernel
theorem dX7_readTown_16 : decode cX7_readTown 16 = .ok (.istore_n 2, 1) := by decide +kernel
theorem dX7_readTown_17 : decode cX7_readTown 17 = .ok (.aload_n 0, 1) := by decide +kernel
theorem dX7_readTown_18 : decode cX7_readTown 18 = .ok (.iconst 2, 1) := by decide +kernel
theorem dX7_readTown_19 : decode cX7_readTown 19 = .ok (.bipush 8, 2) := by decide +kernel
theorem dX7_readTown_21 : decode cX7_readTown 21 = .ok (.invokevirtual 101, 3) := by decide +kernel
theorem dX7_readTown_24 : decode cX7_readTown 24 = .ok (.istore_n 3, 1) := by decide +kernel
theorem dX7_readTown_25 : decode cX7_readTown 25 = .ok (.aload_n 0, 1) := by decide +kernel
theorem dX7_readTown_26 : decode cX7_readTown 26 = .ok (.getfield 15, 3) := by decide +kernel
theorem dX7_readTown_29 : decode cX7_readTown 29 = .ok (.getfield 130, 3) := by decide +kernel
theorem dX7_readTown_32 : decode cX7_readTown 32 = .ok (.iload_n 2, 1) := by decide +kernel
theorem dX7_readTown_33 : decode cX7_readTown 33 = .ok (.iload_n 3, 1) := by decide +kernel
theorem dX7_readTown_34 : decode cX7_readTown 34 = .ok (.invokevirtual 134, 3) := by decide +kernel
theorem dX7_readTown_37 : decode cX7_readTown 37 = .ok (.aload_n 0, 1) := by decide +kernel
theorem dX7_readTown_38 : decode cX7_readTown 38 = .ok (.invokevirtual 127, 3) := by decide +kernel
theorem dX7_readTown_41 : decode cX7_readTown 41 = .ok (.return_, 1) := by decide +kernel
def J_X7_readTown_9 (D : aD) : Option (aD) :=
  aBi (f_X7_number 2 8 D) (fun y_1 D_2 => aBi (f_X7_number 2 8 D_2) (fun y_3 D_4 => (f_X4_lay_22 y_1 y_3 D_4).bind (fun D_5 => (f_X7_close D_5).bind (fun D_6 => some D_6))))
def f_X7_readTown (v1 : Int32) (D : aD) : Option (aD) :=
  if v1 ≠ 0 then (J_X7_readTown_9 D) else ((f_X7_fail 4 D).bind (fun D_7 => J_X7_readTown_9 D_7))
set_option maxRecDepth 100000 in
set_option maxHeartbeats 800000 in
theorem c_X7_readTown {G : aG} (hG : gOK G) {shp : List aSh} (hS : aShp shp) {fr : Option Nat} {v1 : Int32} {D : aD} {K : aD → Prop} (h : Ok (f_X7_readTown v1 D) K) : AC G (aRm 4 0 0) M_X7_readTown [.ref 56, .int v1] fr shp D (aQv shp K) := by
  unfold f_X7_readTown at h
  refine AC.of (al := [some (.ref 56), some (.int v1), none, none]) (r := 2) (by decide) (Nat.le_of_ble_eq_true rfl) rfl ?_
  have hJ_9 : ∀ (D : aD), Ok (J_X7_readTown_9 D) K → AW G (aRm 4 0 0) M_X7_readTown fr 0 0 9 [some (.ref 56), none, none, none] [] shp D (aQv shp K) := by
    intro D h
    unfold J_X7_readTown_9 at h
    refine aw_aload_n (n := 10) (i := 0) dX7_readTown_9 rfl rfl rfl ?_
    refine aw_iconst (n := 11) (v := 2) dX7_readTown_10 rfl (by decide) ?_
    refine aw_bipush (n := 13) (v := 8) dX7_readTown_11 rfl (by decide) ?_
    refine aw_cVi (M := M_X7_readTown) (n := 16) (As := [.int 2, .int 8]) (rest := []) hG.1 lk_RX7_101 rfl rfl (sF_56 hS) (c_X7_number hG hS (h := Ok.bi h)) (by decide) (Nat.le_of_ble_eq_true rfl) (by decide) (by decide) dX7_readTown_13 rfl (fun y_1 D_2 h => ?_)
    refine aw_istore_n (n := 17) (i := 2) (al' := [some (.ref 56), none, some (.int y_1), none]) dX7_readTown_16 rfl rfl rfl (by decide) rfl ?_
    refine aw_aload_n (n := 18) (i := 0) dX7_readTown_17 rfl rfl rfl ?_
    refine aw_iconst (n := 19) (v := 2) dX7_readTown_18 rfl (by decide) ?_
    refine aw_bipush (n := 21) (v := 8) dX7_readTown_19 rfl (by decide) ?_
    refine aw_cVi (M := M_X7_readTown) (n := 24) (As := [.int 2, .int 8]) (rest := []) hG.1 lk_RX7_101 rfl rfl (sF_56 hS) (c_X7_number hG hS (h := Ok.bi h)) (by decide) (Nat.le_of_ble_eq_true rfl) (by decide) (by decide) dX7_readTown_21 rfl (fun y_3 D_4 h => ?_)
    refine aw_istore_n (n := 25) (i := 3) (al' := [some (.ref 56), none, some (.int y_1), some (.int y_3)]) dX7_readTown_24 rfl rfl rfl (by decide) rfl ?_
    refine aw_aload_n (n := 26) (i := 0) dX7_readTown_25 rfl rfl rfl ?_
    refine aw_getR (n := 29) (j := 1) (r := 21) hG.1 fl_RX7_15 (sF_56 hS) rfl dX7_readTown_26 rfl ?_
    refine aw_getR (n := 32) (j := 0) (r := 22) hG.1 fl_RX7_130 (sF_21 hS) rfl dX7_readTown_29 rfl ?_
    refine aw_iload_n (n := 33) (i := 2) dX7_readTown_32 rfl rfl rfl ?_
    refine aw_iload_n (n := 34) (i := 3) dX7_readTown_33 rfl rfl rfl ?_
    refine aw_cVv (M := M_X7_readTown) (n := 37) (As := [.int y_1, .int y_3]) (rest := []) hG.1 lk_RX7_134 rfl rfl (sF_22 hS) (c_X4_lay_22 hG (h := Ok.bind h) (sF_22 hS) (sF_23 hS) (sF_24 hS) (sF_25 hS)) (by decide) (Nat.le_of_ble_eq_true rfl) (by decide) (by decide) dX7_readTown_34 rfl (fun D_5 h => ?_)
    refine aw_aload_n (n := 38) (i := 0) dX7_readTown_37 rfl rfl rfl ?_
    refine aw_cVv (M := M_X7_readTown) (n := 41) (As := []) (rest := []) hG.1 lk_RX7_127 rfl rfl (sF_56 hS) (c_X7_close hG hS (h := Ok.bind h)) (by decide) (Nat.le_of_ble_eq_true rfl) (by decide) (by decide) dX7_readTown_38 rfl (fun D_6 h => ?_)
    exact aw_vret rfl (by decide) (by decide) dX7_readTown_41 ⟨rfl, rfl, (Ok.dn h :)⟩
  refine aw_iload_n (n := 1) (i := 1) dX7_readTown_0 rfl rfl rfl ?_
  refine aw_if_ne (n := 4) (tgt := 9) dX7_readTown_1 rfl (by decide) (fun c => ?_) (fun c => ?_)
  · replace h := Ok.ift h c
    exact aw_le' (hJ_9 D h) ⟨rfl, trivial⟩
  · replace h := Ok.iffn h c
    refine aw_aload_n (n := 5) (i := 0) dX7_readTown_4 rfl rfl rfl ?_
    refine aw_iconst (n := 6) (v := 4) dX7_readTown_5 rfl (by decide) ?_
    refine aw_cVv (M := M_X7_readTown) (n := 9) (As := [.int 4]) (rest := []) hG.1 lk_RX7_124 rfl rfl (sF_56 hS) (c_X7_fail hG hS (h := Ok.bind h)) (by decide) (Nat.le_of_ble_eq_true rfl) (by decide) (by decide) dX7_readTown_6 rfl (fun D_7 h => ?_)
    exact aw_le' (hJ_9 D_7 h) ⟨rfl, trivial⟩
theorem dX7_readLine_0 : decode cX7_readLine 0 = .ok (.aload_n 0, 1) := by decide +kernel
theorem dX7_readLine_1 : decode cX7_readLine 1 = .ok (.ldc 56, 2) := by decide +kernel
theorem dX7_readLine_3 : decode cX7_readLine 3 = .ok (.invokevirtual 58, 3) := by decide +kernel
theorem dX7_readLine_6 : decode cX7_readLine 6 = .ok (.ifCond .eq 11, 3) := by decide +kernel
theorem dX7_readLine_9 : decode cX7_readLine 9 = .ok (.aload_n 0, 1) := by decide +kernel
theorem dX7_readLine_10 : decode cX7_readLine 10 = .ok (.iload_n 1, 1) := by decide +kernel
theorem dX7_readLine_11 : decode cX7_readLine 11 = .ok (.invokevirtual 62, 3) := by decide +kernel
theorem dX7_readLine_14 : decode cX7_readLine 14 = .ok (.goto 105, 3) := by decide +kernel
theorem dX7_readLine_17 : decode cX7_readLine 17 = .ok (.aload_n 0, 1) := by decide +kernel
theorem dX7_readLine_18 : decode cX7_readLine 18 = .ok (.ldc 65, 2) := by decide +kernel
theorem dX7_readLine_20 : decode cX7_readLine 20 = .ok (.invokevirtual 58, 3) := by decide +kernel
theorem dX7_readLine_23 : decode cX7_readLine 23 = .ok (.ifCond .eq 11, 3) := by decide +kernel
theorem dX7_readLine_26 : decode cX7_readLine 26 = .ok (.aload_n 0, 1) := by decide +kernel
theorem dX7_readLine_27 : decode cX7_readLine 27 = .ok (.iconst 0, 1) := by decide +kernel
theorem dX7_readLine_28 : decode cX7_readLine 28 = .ok (.invokevirtual 67, 3) := by decide +kernel
theorem dX7_readLine_31 : decode cX7_readLine 31 = .ok (.goto 88, 3) := by decide +kernel
theorem dX7_readLine_34 : decode cX7_readLine 34 = .ok (.aload_n 0, 1) := by decide +kernel
theorem dX7_readLine_35 : decode cX7_readLine 35 = .ok (.ldc 70, 2) := by decide +kernel
theorem dX7_readLine_37 : decode cX7_readLine 37 = .ok (.invokevirtual 58, 3) := by decide +kernel
theorem dX7_readLine_40 : decode cX7_readLine 40 = .ok (.ifCond .eq 11, 3) := by decide +kernel
theorem dX7_readLine_43 : decode cX7_readLine 43 = .ok (.aload_n 0, 1) := by decide +kernel
theorem dX7_readLine_44 : decode cX7_readLine 44 = .ok (.iconst 1, 1) := by decide +kernel
theorem dX7_readLine_45 : decode cX7_readLine 45 = .ok (.invokevirtual 67, 3) := by decide +kernel
theorem dX7_readLine_48 : decode cX7_readLine 48 = .ok (.goto 71, 3) := by decide +kernel
theorem dX7_readLine_51 : decode cX7_readLine 51 = .ok (.aload_n 0, 1) := by decide +kernel
theorem dX7_readLine_52 : decode cX7_readLine 52 = .ok (.ldc 72, 2) := by decide +kernel
theorem dX7_readLine_54 : decode cX7_readLine 54 = .ok (.invokevirtual 58, 3) := by decide +kernel
theorem dX7_readLine_57 : decode cX7_readLine 57 = .ok (.ifCond .eq 10, 3) := by decide +kernel
theorem dX7_readLine_60 : decode cX7_readLine 60 = .ok (.aload_n 0, 1) := by decide +kernel
theorem dX7_readLine_61 : decode cX7_readLine 61 = .ok (.invokevirtual 74, 3) := by decide +kernel
theorem dX7_readLine_64 : decode cX7_readLine 64 = .ok (.goto 55, 3) := by decide +kernel
theorem dX7_readLine_67 : decode cX7_readLine 67 = .ok (.aload_n 0, 1) := by decide +kernel
theorem dX7_readLine_68 : decode cX7_readLine 68 = .ok (.ldc 77, 2) := by decide +kernel
theorem dX7_readLine_70 : decode cX7_readLine 70 = .ok (.invokevirtual 58, 3) := by decide +kernel
theorem dX7_readLine_73 : decode cX7_readLine 73 = .ok (.ifCond .eq 10, 3) := by decide +kernel
theorem dX7_readLine_76 : decode cX7_readLine 76 = .ok (.aload_n 0, 1) := by decide +kernel
theorem dX7_readLine_77 : decode cX7_readLine 77 = .ok (.invokevirtual 79, 3) := by decide +kernel
theorem dX7_readLine_80 : decode cX7_readLine 80 = .ok (.goto 39, 3) := by decide +kernel
theorem dX7_readLine_83 : decode cX7_readLine 83 = .ok (.aload_n 0, 1) := by decide +kernel
theorem dX7_readLine_84 : decode cX7_readLine 84 = .ok (.ldc 82, 2) := by decide +kernel
theorem dX7_readLine_86 : decode cX7_readLine 86 = .ok (.invokevirtual 58, 3) := by decide +kernel
theorem dX7_readLine_89 : decode cX7_readLine 89 = .ok (.ifCond .eq 10, 3) := by decide +kernel
theorem dX7_readLine_92 : decode cX7_readLine 92 = .ok (.aload_n 0, 1) := by decide +kernel
theorem dX7_readLine_93 : decode cX7_readLine 93 = .ok (.invokevirtual 84, 3) := by decide +kernel
theorem dX7_readLine_96 : decode cX7_readLine 96 = .ok (.goto 23, 3) := by decide +kernel
theorem dX7_readLine_99 : decode cX7_readLine 99 = .ok (.aload_n 0, 1) := by decide +kernel
theorem dX7_readLine_100 : decode cX7_readLine 100 = .ok (.ldc 87, 2) := by decide +kernel
theorem dX7_readLine_102 : decode cX7_readLine 102 = .ok (.invokevirtual 58, 3) := by decide +kernel
theorem dX7_readLine_105 : decode cX7_readLine 105 = .ok (.ifCond .eq 10, 3) := by decide +kernel
theorem dX7_readLine_108 : decode cX7_readLine 108 = .ok (.aload_n 0, 1) := by decide +kernel
theorem dX7_readLine_109 : decode cX7_readLine 109 = .ok (.invokevirtual 89, 3) := by decide +kernel
theorem dX7_readLine_112 : decode cX7_readLine 112 = .ok (.goto 7, 3) := by decide +kernel
theorem dX7_readLine_115 : decode cX7_readLine 115 = .ok (.aload_n 0, 1) := by decide +kernel
theorem dX7_readLine_116 : decode cX7_readLine 116 = .ok (.invokevirtual 92, 3) := by decide +kernel
theorem dX7_readLine_119 : decode cX7_readLine 119 = .ok (.return_, 1) := by decide +kernel
def f_X7_readLine (v1 : Int32) (D : aD) : Option (aD) :=
  aBi (f_X7_isWord 5 D) (fun y_1 D_2 => if y_1 = 0 then (aBi (f_X7_isWord 6 D_2) (fun y_3 D_4 => if y_3 = 0 then (aBi (f_X7_isWord 7 D_4) (fun y_5 D_6 => if y_5 = 0 then (aBi (f_X7_isWord 8 D_6) (fun y_7 D_8 => if y_7 = 0 then (aBi (f_X7_isWord 9 D_8) (fun y_9 D_10 => if y_9 = 0 then (aBi (f_X7_isWord 11 D_10) (fun y_11 D_12 => if y_11 = 0 then (aBi (f_X7_isWord 12 D_12) (fun y_13 D_14 => if y_13 = 0 then ((f_X7_readSetting D_14).bind (fun D_15 => some D_15)) else ((f_X7_readMask D_14).bind (fun D_16 => some D_16)))) else ((f_X7_readGate D_12).bind (fun D_17 => some D_17)))) else ((f_X7_readPlant D_10).bind (fun D_18 => some D_18)))) else ((f_X7_readGarden D_8).bind (fun D_19 => some D_19)))) else ((f_X7_readSort 1 D_6).bind (fun D_20 => some D_20)))) else ((f_X7_readSort 0 D_4).bind (fun D_21 => some D_21)))) else ((f_X7_readTown v1 D_2).bind (fun D_22 => some D_22)))
set_option maxRecDepth 100000 in
set_option maxHeartbeats 800000 in
theorem c_X7_readLine {G : aG} (hG : gOK G) {shp : List aSh} (hS : aShp shp) {fr : Option Nat} {v1 : Int32} {D : aD} {K : aD → Prop} (h : Ok (f_X7_readLine v1 D) K) : AC G (aRm 11 0 0) M_X7_readLine [.ref 56, .int v1] fr shp D (aQv shp K) := by
  unfold f_X7_readLine at h
  refine AC.of (al := [some (.ref 56), some (.int v1)]) (r := 0) (by decide) (Nat.le_of_ble_eq_true rfl) rfl ?_
  refine aw_aload_n (n := 1) (i := 0) dX7_readLine_0 rfl rfl rfl ?_
  refine aw_ldcS (M := M_X7_readLine) (n := 3) (sk := 10000 + 5) (gS_RX7_56 hG) dX7_readLine_1 rfl ?_
  refine aw_cVi (M := M_X7_readLine) (n := 6) (As := [.ref (10000 + 5)]) (rest := []) hG.1 lk_RX7_58 rfl rfl (sF_56 hS) (c_X7_isWord hG hS (h := Ok.bi h) (by decide)) (by decide) (Nat.le_of_ble_eq_true rfl) (by decide) (by decide) dX7_readLine_3 rfl (fun y_1 D_2 h => ?_)
  refine aw_if_eq (n := 9) (tgt := 17) dX7_readLine_6 rfl (by decide) (fun c => ?_) (fun c => ?_)
  · replace h := Ok.ift h c
    refine aw_aload_n (n := 18) (i := 0) dX7_readLine_17 rfl rfl rfl ?_
    refine aw_ldcS (M := M_X7_readLine) (n := 20) (sk := 10000 + 6) (gS_RX7_65 hG) dX7_readLine_18 rfl ?_
    refine aw_cVi (M := M_X7_readLine) (n := 23) (As := [.ref (10000 + 6)]) (rest := []) hG.1 lk_RX7_58 rfl rfl (sF_56 hS) (c_X7_isWord hG hS (h := Ok.bi h) (by decide)) (by decide) (Nat.le_of_ble_eq_true rfl) (by decide) (by decide) dX7_readLine_20 rfl (fun y_3 D_4 h => ?_)
    refine aw_if_eq (n := 26) (tgt := 34) dX7_readLine_23 rfl (by decide) (fun c => ?_) (fun c => ?_)
    · replace h := Ok.ift h c
      refine aw_aload_n (n := 35) (i := 0) dX7_readLine_34 rfl rfl rfl ?_
      refine aw_ldcS (M := M_X7_readLine) (n := 37) (sk := 10000 + 7) (gS_RX7_70 hG) dX7_readLine_35 rfl ?_
      refine aw_cVi (M := M_X7_readLine) (n := 40) (As := [.ref (10000 + 7)]) (rest := []) hG.1 lk_RX7_58 rfl rfl (sF_56 hS) (c_X7_isWord hG hS (h := Ok.bi h) (by decide)) (by decide) (Nat.le_of_ble_eq_true rfl) (by decide) (by decide) dX7_readLine_37 rfl (fun y_5 D_6 h => ?_)
      refine aw_if_eq (n := 43) (tgt := 51) dX7_readLine_40 rfl (by decide) (fun c => ?_) (fun c => ?_)
      · replace h := Ok.ift h c
        refine aw_aload_n (n := 52) (i := 0) dX7_readLine_51 rfl rfl rfl ?_
        refine aw_ldcS (M := M_X7_readLine) (n := 54) (sk := 10000 + 8) (gS_RX7_72 hG) dX7_readLine_52 rfl ?_
        refine aw_cVi (M := M_X7_readLine) (n := 57) (As := [.ref (10000 + 8)]) (rest := []) hG.1 lk_RX7_58 rfl rfl (sF_56 hS) (c_X7_isWord hG hS (h := Ok.bi h) (by decide)) (by decide) (Nat.le_of_ble_eq_true rfl) (by decide) (by decide) dX7_readLine_54 rfl (fun y_7 D_8 h => ?_)
        refine aw_if_eq (n := 60) (tgt := 67) dX7_readLine_57 rfl (by decide) (fun c => ?_) (fun c => ?_)
        · replace h := Ok.ift h c
          refine aw_aload_n (n := 68) (i := 0) dX7_readLine_67 rfl rfl rfl ?_
          refine aw_ldcS (M := M_X7_readLine) (n := 70) (sk := 10000 + 9) (gS_RX7_77 hG) dX7_readLine_68 rfl ?_
          refine aw_cVi (M := M_X7_readLine) (n := 73) (As := [.ref (10000 + 9)]) (rest := []) hG.1 lk_RX7_58 rfl rfl (sF_56 hS) (c_X7_isWord hG hS (h := Ok.bi h) (by decide)) (by decide) (Nat.le_of_ble_eq_true rfl) (by decide) (by decide) dX7_readLine_70 rfl (fun y_9 D_10 h => ?_)
          refine aw_if_eq (n := 76) (tgt := 83) dX7_readLine_73 rfl (by decide) (fun c => ?_) (fun c => ?_)
          · replace h := Ok.ift h c
            refine aw_aload_n (n := 84) (i := 0) dX7_readLine_83 rfl rfl rfl ?_
            refine aw_ldcS (M := M_X7_readLine) (n := 86) (sk := 10000 + 11) (gS_RX7_82 hG) dX7_readLine_84 rfl ?_
            refine aw_cVi (M := M_X7_readLine) (n := 89) (As := [.ref (10000 + 11)]) (rest := []) hG.1 lk_RX7_58 rfl rfl (sF_56 hS) (c_X7_isWord hG hS (h := Ok.bi h) (by decide)) (by decide) (Nat.le_of_ble_eq_true rfl) (by decide) (by decide) dX7_readLine_86 rfl (fun y_11 D_12 h => ?_)
            refine aw_if_eq (n := 92) (tgt := 99) dX7_readLine_89 rfl (by decide) (fun c => ?_) (fun c => ?_)
            · replace h := Ok.ift h c
              refine aw_aload_n (n := 100) (i := 0) dX7_readLine_99 rfl rfl rfl ?_
              refine aw_ldcS (M := M_X7_readLine) (n := 102) (sk := 10000 + 12) (gS_RX7_87 hG) dX7_readLine_100 rfl ?_
              refine aw_cVi (M := M_X7_readLine) (n := 105) (As := [.ref (10000 + 12)]) (rest := []) hG.1 lk_RX7_58 rfl rfl (sF_56 hS) (c_X7_isWord hG hS (h := Ok.bi h) (by decide)) (by decide) (Nat.le_of_ble_eq_true rfl) (by decide) (by decide) dX7_readLine_102 rfl (fun y_13 D_14 h => ?_)
              refine aw_if_eq (n := 108) (tgt := 115) dX7_readLine_105 rfl (by decide) (fun c => ?_) (fun c => ?_)
              · replace h := Ok.ift h c
                refine aw_aload_n (n := 116) (i := 0) dX7_readLine_115 rfl rfl rfl ?_
                refine aw_cVv (M := M_X7_readLine) (n := 119) (As := []) (rest := []) hG.1 lk_RX7_92 rfl rfl (sF_56 hS) (c_X7_readSetting hG hS (h := Ok.bind h)) (by decide) (Nat.le_of_ble_eq_true rfl) (by decide) (by decide) dX7_readLine_116 rfl (fun D_15 h => ?_)
                exact aw_vret rfl (by decide) (by decide) dX7_readLine_119 ⟨rfl, rfl, (Ok.dn h :)⟩
              · replace h := Ok.iff h c
                refine aw_aload_n (n := 109) (i := 0) dX7_readLine_108 rfl rfl rfl ?_
                refine aw_cVv (M := M_X7_readLine) (n := 112) (As := []) (rest := []) hG.1 lk_RX7_89 rfl rfl (sF_56 hS) (c_X7_readMask hG hS (h := Ok.bind h)) (by decide) (Nat.le_of_ble_eq_true rfl) (by decide) (by decide) dX7_readLine_109 rfl (fun D_16 h => ?_)
                refine aw_goto (tgt := 119) dX7_readLine_112 (by decide) ?_
                exact aw_vret rfl (by decide) (by decide) dX7_readLine_119 ⟨rfl, rfl, (Ok.dn h :)⟩
            · replace h := Ok.iff h c
              refine aw_aload_n (n := 93) (i := 0) dX7_readLine_92 rfl rfl rfl ?_
              refine aw_cVv (M := M_X7_readLine) (n := 96) (As := []) (rest := []) hG.1 lk_RX7_84 rfl rfl (sF_56 hS) (c_X7_readGate hG hS (h := Ok.bind h)) (by decide) (Nat.le_of_ble_eq_true rfl) (by decide) (by decide) dX7_readLine_93 rfl (fun D_17 h => ?_)
              refine aw_goto (tgt := 119) dX7_readLine_96 (by decide) ?_
              exact aw_vret rfl (by decide) (by decide) dX7_readLine_119 ⟨rfl, rfl, (Ok.dn h :)⟩
          · replace h := Ok.iff h c
            refine aw_aload_n (n := 77) (i := 0) dX7_readLine_76 rfl rfl rfl ?_
            refine aw_cVv (M := M_X7_readLine) (n := 80) (As := []) (rest := []) hG.1 lk_RX7_79 rfl rfl (sF_56 hS) (c_X7_readPlant hG hS (h := Ok.bind h)) (by decide) (Nat.le_of_ble_eq_true rfl) (by decide) (by decide) dX7_readLine_77 rfl (fun D_18 h => ?_)
            refine aw_goto (tgt := 119) dX7_readLine_80 (by decide) ?_
            exact aw_vret rfl (by decide) (by decide) dX7_readLine_119 ⟨rfl, rfl, (Ok.dn h :)⟩
        · replace h := Ok.iff h c
          refine aw_aload_n (n := 61) (i := 0) dX7_readLine_60 rfl rfl rfl ?_
          refine aw_cVv (M := M_X7_readLine) (n := 64) (As := []) (rest := []) hG.1 lk_RX7_74 rfl rfl (sF_56 hS) (c_X7_readGarden hG hS (h := Ok.bind h)) (by decide) (Nat.le_of_ble_eq_true rfl) (by decide) (by decide) dX7_readLine_61 rfl (fun D_19 h => ?_)
          refine aw_goto (tgt := 119) dX7_readLine_64 (by decide) ?_
          exact aw_vret rfl (by decide) (by decide) dX7_readLine_119 ⟨rfl, rfl, (Ok.dn h :)⟩
      · replace h := Ok.iff h c
        refine aw_aload_n (n := 44) (i := 0) dX7_readLine_43 rfl rfl rfl ?_
        refine aw_iconst (n := 45) (v := 1) dX7_readLine_44 rfl (by decide) ?_
        refine aw_cVv (M := M_X7_readLine) (n := 48) (As := [.int 1]) (rest := []) hG.1 lk_RX7_67 rfl rfl (sF_56 hS) (c_X7_readSort hG hS (h := Ok.bind h)) (by decide) (Nat.le_of_ble_eq_true rfl) (by decide) (by decide) dX7_readLine_45 rfl (fun D_20 h => ?_)
        refine aw_goto (tgt := 119) dX7_readLine_48 (by decide) ?_
        exact aw_vret rfl (by decide) (by decide) dX7_readLine_119 ⟨rfl, rfl, (Ok.dn h :)⟩
    · replace h := Ok.iff h c
      refine aw_aload_n (n := 27) (i := 0) dX7_readLine_26 rfl rfl rfl ?_
      refine aw_iconst (n := 28) (v := 0) dX7_readLine_27 rfl (by decide) ?_
      refine aw_cVv (M := M_X7_readLine) (n := 31) (As := [.int 0]) (rest := []) hG.1 lk_RX7_67 rfl rfl (sF_56 hS) (c_X7_readSort hG hS (h := Ok.bind h)) (by decide) (Nat.le_of_ble_eq_true rfl) (by decide) (by decide) dX7_readLine_28 rfl (fun D_21 h => ?_)
      refine aw_goto (tgt := 119) dX7_readLine_31 (by decide) ?_
      exact aw_vret rfl (by decide) (by decide) dX7_readLine_119 ⟨rfl, rfl, (Ok.dn h :)⟩
  · replace h := Ok.iff h c
    refine aw_aload_n (n := 10) (i := 0) dX7_readLine_9 rfl rfl rfl ?_
    refine aw_iload_n (n := 11) (i := 1) dX7_readLine_10 rfl rfl rfl ?_
    refine aw_cVv (M := M_X7_readLine) (n := 14) (As := [.int v1]) (rest := []) hG.1 lk_RX7_62 rfl rfl (sF_56 hS) (c_X7_readTown hG hS (h := Ok.bind h)) (by decide) (Nat.le_of_ble_eq_true rfl) (by decide) (by decide) dX7_readLine_11 rfl (fun D_22 h => ?_)
    refine aw_goto (tgt := 119) dX7_readLine_14 (by decide) ?_
    exact aw_vret rfl (by decide) (by decide) dX7_readLine_119 ⟨rfl, rfl, (Ok.dn h :)⟩
theorem dX7_read_0 : decode cX7_read 0 = .ok (.aload_n 0, 1) := by decide +kernel
theorem dX7_read_1 : decode cX7_read 1 = .ok (.iload_n 1, 1) := by decide +kernel
theorem dX7_read_2 : decode cX7_read 2 = .ok (.aload_n 0, 1) := by decide +kernel
theorem dX7_read_3 : decode cX7_read 3 = .ok (.getfield 9, 3) := by decide +kernel
theorem dX7_read_6 : decode cX7_read 6 = .ok (.arraylength, 1) := by decide +kernel
theorem dX7_read_7 : decode cX7_read 7 = .ok (.invokestatic 19, 3) := by decide +kernel
theorem dX7_read_10 : decode cX7_read 10 = .ok (.putfield 25, 3) := by decide +kernel
theorem dX7_read_13 : decode cX7_read 13 = .ok (.aload_n 0, 1) := by decide +kernel
theorem dX7_read_14 : decode cX7_read 14 = .ok (.iconst 0, 1) := by decide +kernel
theorem dX7_read_15 : decode cX7_read 15 = .ok (.putfield 29, 3) := by decide +kernel
theorem dX7_read_18 : decode cX7_read 18 = .ok (.aload_n 0, 1) := by decide +kernel
theorem dX7_read_19 : decode cX7_read 19 = .ok (.iconst 0, 1) := by decide +kernel
theorem dX7_read_20 : decode cX7_read 20 = .ok (.putfield 32, 3) := by decide +kernel
theorem dX7_read_23 : decode cX7_read 23 = .ok (.aload_n 0, 1) := by decide +kernel
theorem dX7_read_24 : decode cX7_read 24 = .ok (.iconst 0, 1) := by decide +kernel
theorem dX7_read_25 : decode cX7_read 25 = .ok (.putfield 35, 3) := by decide +kernel
theorem dX7_read_28 : decode cX7_read 28 = .ok (.aload_n 0, 1) := by decide +kernel
theorem dX7_read_29 : decode cX7_read 29 = .ok (.iconst (-1), 1) := by decide +kernel
theorem dX7_read_30 : decode cX7_read 30 = .ok (.putfield 38, 3) := by decide +kernel
theorem dX7_read_33 : decode cX7_read 33 = .ok (.aload_n 0, 1) := by decide +kernel
theorem dX7_read_34 : decode cX7_read 34 = .ok (.getfield 15, 3) := by decide +kernel
theorem dX7_read_37 : decode cX7_read 37 = .ok (.invokevirtual 41, 3) := by decide +kernel
theorem dX7_read_40 : decode cX7_read 40 = .ok (.aload_n 0, 1) := by decide +kernel
theorem dX7_read_41 : decode cX7_read 41 = .ok (.invokevirtual 46, 3) := by decide +kernel
theorem dX7_read_44 : decode cX7_read 44 = .ok (.iconst 0, 1) := by decide +kernel
theorem dX7_read_45 : decode cX7_read 45 = .ok (.istore_n 2, 1) := by decide +kernel
theorem dX7_read_46 : decode cX7_read 46 = .ok (.iload_n 2, 1) := by decide +kernel
theorem dX7_read_47 : decode cX7_read 47 = .ok (.aload_n 0, 1) := by decide +kernel
theorem dX7_read_48 : decode cX7_read 48 = .ok (.getfield 25, 3) := by decide +kernel
theorem dX7_read_51 : decode cX7_read 51 = .ok (.if_icmp .gt 40, 3) := by decide +kernel
theorem dX7_read_54 : decode cX7_read 54 = .ok (.aload_n 0, 1) := by decide +kernel
theorem dX7_read_55 : decode cX7_read 55 = .ok (.getfield 35, 3) := by decide +kernel
theorem dX7_read_58 : decode cX7_read 58 = .ok (.ifCond .ne 33, 3) := by decide +kernel
theorem dX7_read_61 : decode cX7_read 61 = .ok (.aload_n 0, 1) := by decide +kernel
theorem dX7_read_62 : decode cX7_read 62 = .ok (.getfield 49, 3) := by decide +kernel
theorem dX7_read_65 : decode cX7_read 65 = .ok (.ifCond .eq 26, 3) := by decide +kernel
theorem dX7_read_68 : decode cX7_read 68 = .ok (.aload_n 0, 1) := by decide +kernel
theorem dX7_read_69 : decode cX7_read 69 = .ok (.iload_n 2, 1) := by decide +kernel
theorem dX7_read_70 : decode cX7_read 70 = .ok (.ifCond .ne 7, 3) := by decide +kernel
theorem dX7_read_73 : decode cX7_read 73 = .ok (.iconst 1, 1) := by decide +kernel
theorem dX7_read_74 : decode cX7_read 74 = .ok (.goto 4, 3) := by decide +kernel
theorem dX7_read_77 : decode cX7_read 77 = .ok (.iconst 0, 1) := by decide +kernel
theorem dX7_read_78 : decode cX7_read 78 = .ok (.invokevirtual 52, 3) := by decide +kernel
theorem dX7_read_81 : decode cX7_read 81 = .ok (.aload_n 0, 1) := by decide +kernel
theorem dX7_read_82 : decode cX7_read 82 = .ok (.invokevirtual 46, 3) := by decide +kernel
theorem dX7_read_85 : decode cX7_read 85 = .ok (.iinc 2 1, 3) := by decide +kernel
theorem dX7_read_88 : decode cX7_read 88 = .ok (.goto (-42), 3) := by decide +kernel
theorem dX7_read_91 : decode cX7_read 91 = .ok (.aload_n 0, 1) := by decide +kernel
theorem dX7_read_92 : decode cX7_read 92 = .ok (.getfield 35, 3) := by decide +kernel
theorem dX7_read_95 : decode cX7_read 95 = .ok (.ireturn, 1) := by decide +kernel
def J_X7_read_91 (D : aD) : Option (Int32 × aD) :=
  some (gI D 56 7, D)
def J_X7_read_78 (v2 : Int32) (t0 : Int32) (D : aD) : Option ((Int32 × aD) ⊕ ((aD))) :=
  (f_X7_readLine t0 D).bind (fun D_8 => (f_X7_take D_8).bind (fun D_9 => aLet (v2 + 1) (fun v2_10 => some (.inl (v2_10, D_9)))))
def B_X7_read_46 (v2 : Int32) (D : aD) : Option ((Int32 × aD) ⊕ ((aD))) :=
  if gI D 56 2 < v2 then (some (.inr D)) else (if gI D 56 7 ≠ 0 then (some (.inr D)) else (if gI D 56 3 = 0 then (some (.inr D)) else (if v2 ≠ 0 then (J_X7_read_78 v2 0 D) else (J_X7_read_78 v2 1 D))))
def J_X7_read_46 (v2 : Int32) (D : aD) : Option (Int32 × aD) :=
  (aLp (fun s => B_X7_read_46 s.1 s.2) (v2, D)).bind (fun r => J_X7_read_91 r)
def f_X7_read (v1 : Int32) (D : aD) : Option (Int32 × aD) :=
  aLet (pI D 56 2 (if 700 < v1 then 700 else v1)) (fun D_1 => aLet (pI D_1 56 5 0) (fun D_2 => aLet (pI D_2 56 6 0) (fun D_3 => aLet (pI D_3 56 7 0) (fun D_4 => aLet (pI D_4 56 8 (-1)) (fun D_5 => (f_X6_clear_21 D_5).bind (fun D_6 => (f_X7_take D_6).bind (fun D_7 => J_X7_read_46 0 D_7)))))))
set_option maxRecDepth 100000 in
set_option maxHeartbeats 800000 in
theorem c_X7_read {G : aG} (hG : gOK G) {shp : List aSh} (hS : aShp shp) {fr : Option Nat} {v1 : Int32} {D : aD} {K : Int32 → aD → Prop} (h : Ok2 (f_X7_read v1 D) K) : AC G (aRm 12 0 0) M_X7_read [.ref 56, .int v1] fr shp D (aQi shp K) := by
  replace h := Ok2.ok h
  unfold f_X7_read at h
  refine AC.of (al := [some (.ref 56), some (.int v1), none]) (r := 1) (by decide) (Nat.le_of_ble_eq_true rfl) rfl ?_
  have hJ_91 : ∀ (D : aD), Ok (J_X7_read_91 D) (fun r => K r.1 r.2) → AW G (aRm 12 0 0) M_X7_read fr 0 0 91 [some (.ref 56), none, none] [] shp D (aQi shp K) := by
    intro D h
    unfold J_X7_read_91 at h
    refine aw_aload_n (n := 92) (i := 0) dX7_read_91 rfl rfl rfl ?_
    refine aw_getI (n := 95) (j := 7) hG.1 fl_RX7_35 (sF_56 hS) rfl dX7_read_92 rfl ?_
    exact aw_iret rfl (by decide) (by decide) dX7_read_95 ⟨_, rfl, rfl, (Ok.dn h :)⟩
  have hJ_46 : ∀ (v2 : Int32) (D : aD), Ok (J_X7_read_46 v2 D) (fun r => K r.1 r.2) → AW G (aRm 12 0 0) M_X7_read fr 0 0 46 [some (.ref 56), none, some (.int v2)] [] shp D (aQi shp K) := by
    intro v2 D h
    unfold J_X7_read_46 at h
    refine Ok.lp (P := fun s => AW G (aRm 12 0 0) M_X7_read fr 0 0 46 [some (.ref 56), none, some (.int (s.1))] [] shp s.2 (aQi shp K)) (fun s Kb46 hL46 hR46 h => ?_) (v2, D) (Ok.bind h)
    obtain ⟨v2, D⟩ := s
    replace h : Ok (B_X7_read_46 v2 D) Kb46 := h
    unfold B_X7_read_46 at h
    have hJ_78 : ∀ (v2 : Int32) (t0 : Int32) (D : aD), Ok (J_X7_read_78 v2 t0 D) Kb46 → AW G (aRm 12 0 0) M_X7_read fr 0 0 78 [some (.ref 56), none, some (.int v2)] [.int t0, .ref 56] shp D (aQi shp K) := by
      intro v2 t0 D h
      unfold J_X7_read_78 at h
      refine aw_cVv (M := M_X7_read) (n := 81) (As := [.int t0]) (rest := []) hG.1 lk_RX7_52 rfl rfl (sF_56 hS) (c_X7_readLine hG hS (h := Ok.bind h)) (by decide) (Nat.le_of_ble_eq_true rfl) (by decide) (by decide) dX7_read_78 rfl (fun D_8 h => ?_)
      refine aw_aload_n (n := 82) (i := 0) dX7_read_81 rfl rfl rfl ?_
      refine aw_cVv (M := M_X7_read) (n := 85) (As := []) (rest := []) hG.1 lk_RX7_46 rfl rfl (sF_56 hS) (c_X7_take hG hS (h := Ok.bind h)) (by decide) (Nat.le_of_ble_eq_true rfl) (by decide) (by decide) dX7_read_82 rfl (fun D_9 h => ?_)
      obtain ⟨v2_10, e_v2_10, h⟩ := Ok.let_ h
      refine aw_iinc (n := 88) (al' := [some (.ref 56), none, some (.int v2_10)]) dX7_read_85 rfl rfl e_v2_10 (by decide) rfl ?_
      refine aw_goto (tgt := 46) dX7_read_88 (by decide) ?_
      exact aw_le' (hL46 (v2_10, D_9) (Ok.dn h :)) ⟨rfl, ⟨rfl, trivial⟩⟩
    refine aw_iload_n (n := 47) (i := 2) dX7_read_46 rfl rfl rfl ?_
    refine aw_aload_n (n := 48) (i := 0) dX7_read_47 rfl rfl rfl ?_
    refine aw_getI (n := 51) (j := 2) hG.1 fl_RX7_25 (sF_56 hS) rfl dX7_read_48 rfl ?_
    refine aw_icmp_gt (n := 54) (tgt := 91) dX7_read_51 rfl (by decide) (fun c => ?_) (fun c => ?_)
    · replace h := Ok.ift h c
      exact aw_le' (hJ_91 D (hR46 D (Ok.dn h :))) ⟨rfl, trivial⟩
    · replace h := Ok.iff h c
      refine aw_aload_n (n := 55) (i := 0) dX7_read_54 rfl rfl rfl ?_
      refine aw_getI (n := 58) (j := 7) hG.1 fl_RX7_35 (sF_56 hS) rfl dX7_read_55 rfl ?_
      refine aw_if_ne (n := 61) (tgt := 91) dX7_read_58 rfl (by decide) (fun c => ?_) (fun c => ?_)
      · replace h := Ok.ift h c
        exact aw_le' (hJ_91 D (hR46 D (Ok.dn h :))) ⟨rfl, trivial⟩
      · replace h := Ok.iffn h c
        refine aw_aload_n (n := 62) (i := 0) dX7_read_61 rfl rfl rfl ?_
        refine aw_getI (n := 65) (j := 3) hG.1 fl_RX7_49 (sF_56 hS) rfl dX7_read_62 rfl ?_
        refine aw_if_eq (n := 68) (tgt := 91) dX7_read_65 rfl (by decide) (fun c => ?_) (fun c => ?_)
        · replace h := Ok.ift h c
          exact aw_le' (hJ_91 D (hR46 D (Ok.dn h :))) ⟨rfl, trivial⟩
        · replace h := Ok.iff h c
          refine aw_aload_n (n := 69) (i := 0) dX7_read_68 rfl rfl rfl ?_
          refine aw_iload_n (n := 70) (i := 2) dX7_read_69 rfl rfl rfl ?_
          refine aw_if_ne (n := 73) (tgt := 77) dX7_read_70 rfl (by decide) (fun c => ?_) (fun c => ?_)
          · replace h := Ok.ift h c
            refine aw_iconst (n := 78) (v := 0) dX7_read_77 rfl (by decide) ?_
            exact aw_le' (hJ_78 v2 0 D h) ⟨rfl, ⟨rfl, trivial⟩⟩
          · replace h := Ok.iffn h c
            refine aw_iconst (n := 74) (v := 1) dX7_read_73 rfl (by decide) ?_
            refine aw_goto (tgt := 78) dX7_read_74 (by decide) ?_
            exact aw_le' (hJ_78 v2 1 D h) ⟨rfl, ⟨rfl, trivial⟩⟩
  refine aw_aload_n (n := 1) (i := 0) dX7_read_0 rfl rfl rfl ?_
  refine aw_iload_n (n := 2) (i := 1) dX7_read_1 rfl rfl rfl ?_
  refine aw_aload_n (n := 3) (i := 0) dX7_read_2 rfl rfl rfl ?_
  refine aw_getR (n := 6) (j := 0) (r := 1) hG.1 fl_RX7_9 (sF_56 hS) rfl dX7_read_3 rfl ?_
  refine aw_alen (n := 7) (t := 0) (v := 700) hG.1 rfl (sF_1 hS) (by decide) dX7_read_6 rfl ?_
  refine aw_min (M := M_X7_read) (n := 10) lm_RX7_19 mm_min.1 mm_min.2.1 mm_min.2.2 (by decide) (Nat.le_of_ble_eq_true rfl) (by decide) (by decide) dX7_read_7 rfl ?_
  obtain ⟨D_1, e_D_1, h⟩ := Ok.let_ h
  refine aw_putI (n := 13) (j := 2) hG.1 fl_RX7_25 (sF_56 hS) rfl e_D_1 dX7_read_10 rfl ?_
  refine aw_aload_n (n := 14) (i := 0) dX7_read_13 rfl rfl rfl ?_
  refine aw_iconst (n := 15) (v := 0) dX7_read_14 rfl (by decide) ?_
  obtain ⟨D_2, e_D_2, h⟩ := Ok.let_ h
  refine aw_putI (n := 18) (j := 5) hG.1 fl_RX7_29 (sF_56 hS) rfl e_D_2 dX7_read_15 rfl ?_
  refine aw_aload_n (n := 19) (i := 0) dX7_read_18 rfl rfl rfl ?_
  refine aw_iconst (n := 20) (v := 0) dX7_read_19 rfl (by decide) ?_
  obtain ⟨D_3, e_D_3, h⟩ := Ok.let_ h
  refine aw_putI (n := 23) (j := 6) hG.1 fl_RX7_32 (sF_56 hS) rfl e_D_3 dX7_read_20 rfl ?_
  refine aw_aload_n (n := 24) (i := 0) dX7_read_23 rfl rfl rfl ?_
  refine aw_iconst (n := 25) (v := 0) dX7_read_24 rfl (by decide) ?_
  obtain ⟨D_4, e_D_4, h⟩ := Ok.let_ h
  refine aw_putI (n := 28) (j := 7) hG.1 fl_RX7_35 (sF_56 hS) rfl e_D_4 dX7_read_25 rfl ?_
  refine aw_aload_n (n := 29) (i := 0) dX7_read_28 rfl rfl rfl ?_
  refine aw_iconst (n := 30) (v := (-1)) dX7_read_29 rfl (by decide) ?_
  obtain ⟨D_5, e_D_5, h⟩ := Ok.let_ h
  refine aw_putI (n := 33) (j := 8) hG.1 fl_RX7_38 (sF_56 hS) rfl e_D_5 dX7_read_30 rfl ?_
  refine aw_aload_n (n := 34) (i := 0) dX7_read_33 rfl rfl rfl ?_
  refine aw_getR (n := 37) (j := 1) (r := 21) hG.1 fl_RX7_15 (sF_56 hS) rfl dX7_read_34 rfl ?_
  refine aw_cVv (M := M_X7_read) (n := 40) (As := []) (rest := []) hG.1 lk_RX7_41 rfl rfl (sF_21 hS) (c_X6_clear_21 hG (h := Ok.bind h) (sF_21 hS) (sF_22 hS) (sF_23 hS) (sF_24 hS) (sF_25 hS) (sF_31 hS) (sF_32 hS) (sF_33 hS)) (by decide) (Nat.le_of_ble_eq_true rfl) (by decide) (by decide) dX7_read_37 rfl (fun D_6 h => ?_)
  refine aw_aload_n (n := 41) (i := 0) dX7_read_40 rfl rfl rfl ?_
  refine aw_cVv (M := M_X7_read) (n := 44) (As := []) (rest := []) hG.1 lk_RX7_46 rfl rfl (sF_56 hS) (c_X7_take hG hS (h := Ok.bind h)) (by decide) (Nat.le_of_ble_eq_true rfl) (by decide) (by decide) dX7_read_41 rfl (fun D_7 h => ?_)
  refine aw_iconst (n := 45) (v := 0) dX7_read_44 rfl (by decide) ?_
  refine aw_istore_n (n := 46) (i := 2) (al' := [some (.ref 56), some (.int v1), some (.int 0)]) dX7_read_45 rfl rfl rfl (by decide) rfl ?_
  exact aw_le' (hJ_46 0 D_7 h) ⟨rfl, ⟨rfl, trivial⟩⟩
theorem dX0_plantScent_0 : decode cX0_plantScent 0 = .ok (.aload_n 0, 1) := by decide +kernel
theorem dX0_plantScent_1 : decode cX0_plantScent 1 = .ok (.getfield 22, 3) := by decide +kernel
theorem dX0_plantScent_4 : decode cX0_plantScent 4 = .ok (.getfield 55, 3) := by decide +kernel
theorem dX0_plantScent_7 : decode cX0_plantScent 7 = .ok (.iload_n 1, 1) := by decide +kernel
theorem dX0_plantScent_8 : decode cX0_plantScent 8 = .ok (.iaload, 1) := by decide +kernel
theorem dX0_plantScent_9 : decode cX0_plantScent 9 = .ok (.iconst 1, 1) := by decide +kernel
theorem dX0_plantScent_10 : decode cX0_plantScent 10 = .ok (.if_icmp .ne 5, 3) := by decide +kernel
theorem dX0_plantScent_13 : decode cX0_plantScent 13 = .ok (.iconst 0, 1) := by decide +kernel
theorem dX0_plantScent_14 : decode cX0_plantScent 14 = .ok (.ireturn, 1) := by decide +kernel
theorem dX0_plantScent_15 : decode cX0_plantScent 15 = .ok (.aload_n 0, 1) := by decide +kernel
theorem dX0_plantScent_16 : decode cX0_plantScent 16 = .ok (.getfield 22, 3) := by decide +kernel
theorem dX0_plantScent_19 : decode cX0_plantScent 19 = .ok (.getfield 55, 3) := by decide +kernel
theorem dX0_plantScent_22 : decode cX0_plantScent 22 = .ok (.iload_n 1, 1) := by decide +kernel
theorem dX0_plantScent_23 : decode cX0_plantScent 23 = .ok (.iaload, 1) := by decide +kernel
theorem dX0_plantScent_24 : decode cX0_plantScent 24 = .ok (.iconst 2, 1) := by decide +kernel
theorem dX0_plantScent_25 : decode cX0_plantScent 25 = .ok (.if_icmp .ne 7, 3) := by decide +kernel
theorem dX0_plantScent_28 : decode cX0_plantScent 28 = .ok (.iconst 3, 1) := by decide +kernel
theorem dX0_plantScent_29 : decode cX0_plantScent 29 = .ok (.goto 4, 3) := by decide +kernel
theorem dX0_plantScent_32 : decode cX0_plantScent 32 = .ok (.iconst 1, 1) := by decide +kernel
theorem dX0_plantScent_33 : decode cX0_plantScent 33 = .ok (.istore 5, 2) := by decide +kernel
theorem dX0_plantScent_35 : decode cX0_plantScent 35 = .ok (.aload_n 0, 1) := by decide +kernel
theorem dX0_plantScent_36 : decode cX0_plantScent 36 = .ok (.getfield 18, 3) := by decide +kernel
theorem dX0_plantScent_39 : decode cX0_plantScent 39 = .ok (.aload_n 0, 1) := by decide +kernel
theorem dX0_plantScent_40 : decode cX0_plantScent 40 = .ok (.getfield 18, 3) := by decide +kernel
theorem dX0_plantScent_43 : decode cX0_plantScent 43 = .ok (.getfield 45, 3) := by decide +kernel
theorem dX0_plantScent_46 : decode cX0_plantScent 46 = .ok (.iload_n 1, 1) := by decide +kernel
theorem dX0_plantScent_47 : decode cX0_plantScent 47 = .ok (.iaload, 1) := by decide +kernel
theorem dX0_plantScent_48 : decode cX0_plantScent 48 = .ok (.iload 5, 2) := by decide +kernel
theorem dX0_plantScent_50 : decode cX0_plantScent 50 = .ok (.aload_n 0, 1) := by decide +kernel
theorem dX0_plantScent_51 : decode cX0_plantScent 51 = .ok (.getfield 18, 3) := by decide +kernel
theorem dX0_plantScent_54 : decode cX0_plantScent 54 = .ok (.getfield 60, 3) := by decide +kernel
theorem dX0_plantScent_57 : decode cX0_plantScent 57 = .ok (.iload_n 1, 1) := by decide +kernel
theorem dX0_plantScent_58 : decode cX0_plantScent 58 = .ok (.iaload, 1) := by decide +kernel
theorem dX0_plantScent_59 : decode cX0_plantScent 59 = .ok (.iload_n 2, 1) := by decide +kernel
theorem dX0_plantScent_60 : decode cX0_plantScent 60 = .ok (.aload_n 0, 1) := by decide +kernel
theorem dX0_plantScent_61 : decode cX0_plantScent 61 = .ok (.getfield 22, 3) := by decide +kernel
theorem dX0_plantScent_64 : decode cX0_plantScent 64 = .ok (.getfield 63, 3) := by decide +kernel
theorem dX0_plantScent_67 : decode cX0_plantScent 67 = .ok (.iload_n 3, 1) := by decide +kernel
theorem dX0_plantScent_68 : decode cX0_plantScent 68 = .ok (.iload 4, 2) := by decide +kernel
theorem dX0_plantScent_70 : decode cX0_plantScent 70 = .ok (.invokevirtual 66, 3) := by decide +kernel
theorem dX0_plantScent_73 : decode cX0_plantScent 73 = .ok (.ireturn, 1) := by decide +kernel
def J_X0_plantScent_33 (v1 : Int32) (v2 : Int32) (v3 : Int32) (v4 : Int32) (t0 : Int32) (D : aD) : Option (Int32 × aD) :=
  aGd (aIn v1 12) (aGd (aIn v1 12) (aBi (f_X6_scent (gI D 8 v1.toNatClampNeg) t0 (gI D 9 v1.toNatClampNeg) v2 (gI D 40 3) v3 v4 D) (fun y_5 D_6 => some (y_5, D_6))))
def f_X0_plantScent (v1 : Int32) (v2 : Int32) (v3 : Int32) (v4 : Int32) (D : aD) : Option (Int32 × aD) :=
  aGd (aIn v1 12) (if gI D 41 v1.toNatClampNeg ≠ 1 then (aGd (aIn v1 12) (if gI D 41 v1.toNatClampNeg ≠ 2 then (J_X0_plantScent_33 v1 v2 v3 v4 1 D) else (J_X0_plantScent_33 v1 v2 v3 v4 3 D))) else (some (0, D)))
set_option maxRecDepth 100000 in
set_option maxHeartbeats 800000 in
theorem c_X0_plantScent {G : aG} (hG : gOK G) {shp : List aSh} (hS : aShp shp) {fr : Option Nat} {v1 : Int32} {v2 : Int32} {v3 : Int32} {v4 : Int32} {D : aD} {K : Int32 → aD → Prop} (h : Ok2 (f_X0_plantScent v1 v2 v3 v4 D) K) : AC G (aRm 3 0 0) M_X0_plantScent [.ref 57, .int v1, .int v2, .int v3, .int v4] fr shp D (aQi shp K) := by
  replace h := Ok2.ok h
  unfold f_X0_plantScent at h
  refine AC.of (al := [some (.ref 57), some (.int v1), some (.int v2), some (.int v3), some (.int v4), none]) (r := 1) (by decide) (Nat.le_of_ble_eq_true rfl) rfl ?_
  have hJ_33 : ∀ (v1 : Int32) (v2 : Int32) (v3 : Int32) (v4 : Int32) (t0 : Int32) (D : aD), Ok (J_X0_plantScent_33 v1 v2 v3 v4 t0 D) (fun r => K r.1 r.2) → AW G (aRm 3 0 0) M_X0_plantScent fr 0 0 33 [some (.ref 57), some (.int v1), some (.int v2), some (.int v3), some (.int v4), none] [.int t0] shp D (aQi shp K) := by
    intro v1 v2 v3 v4 t0 D h
    unfold J_X0_plantScent_33 at h
    refine aw_istore (n := 35) (i := 5) (al' := [some (.ref 57), some (.int v1), some (.int v2), some (.int v3), some (.int v4), some (.int t0)]) dX0_plantScent_33 rfl rfl (by decide) rfl ?_
    refine aw_aload_n (n := 36) (i := 0) dX0_plantScent_35 rfl rfl rfl ?_
    refine aw_getR (n := 39) (j := 0) (r := 2) hG.1 fl_RX0_18 (sF_57 hS) rfl dX0_plantScent_36 rfl ?_
    refine aw_aload_n (n := 40) (i := 0) dX0_plantScent_39 rfl rfl rfl ?_
    refine aw_getR (n := 43) (j := 0) (r := 2) hG.1 fl_RX0_18 (sF_57 hS) rfl dX0_plantScent_40 rfl ?_
    refine aw_getR (n := 46) (j := 10) (r := 8) hG.1 fl_RX0_45 (sF_2 hS) rfl dX0_plantScent_43 rfl ?_
    refine aw_iload_n (n := 47) (i := 1) dX0_plantScent_46 rfl rfl rfl ?_
    obtain ⟨g_3, h⟩ := Ok.gd h
    refine aw_iaload (n := 48) hG.1 (sF_8 hS) (aIn_in g_3) dX0_plantScent_47 rfl ?_
    refine aw_iload (n := 50) (i := 5) dX0_plantScent_48 rfl rfl ?_
    refine aw_aload_n (n := 51) (i := 0) dX0_plantScent_50 rfl rfl rfl ?_
    refine aw_getR (n := 54) (j := 0) (r := 2) hG.1 fl_RX0_18 (sF_57 hS) rfl dX0_plantScent_51 rfl ?_
    refine aw_getR (n := 57) (j := 11) (r := 9) hG.1 fl_RX0_60 (sF_2 hS) rfl dX0_plantScent_54 rfl ?_
    refine aw_iload_n (n := 58) (i := 1) dX0_plantScent_57 rfl rfl rfl ?_
    obtain ⟨g_4, h⟩ := Ok.gd h
    refine aw_iaload (n := 59) hG.1 (sF_9 hS) (aIn_in g_4) dX0_plantScent_58 rfl ?_
    refine aw_iload_n (n := 60) (i := 2) dX0_plantScent_59 rfl rfl rfl ?_
    refine aw_aload_n (n := 61) (i := 0) dX0_plantScent_60 rfl rfl rfl ?_
    refine aw_getR (n := 64) (j := 1) (r := 40) hG.1 fl_RX0_22 (sF_57 hS) rfl dX0_plantScent_61 rfl ?_
    refine aw_getI (n := 67) (j := 3) hG.1 fl_RX0_63 (sF_40 hS) rfl dX0_plantScent_64 rfl ?_
    refine aw_iload_n (n := 68) (i := 3) dX0_plantScent_67 rfl rfl rfl ?_
    refine aw_iload (n := 70) (i := 4) dX0_plantScent_68 rfl rfl ?_
    refine aw_cVi (M := M_X0_plantScent) (n := 73) (As := [.int (gI D 8 v1.toNatClampNeg), .int t0, .int (gI D 9 v1.toNatClampNeg), .int v2, .int (gI D 40 3), .int v3, .int v4]) (rest := []) hG.1 lk_RX0_66 rfl rfl (sF_2 hS) (c_X6_scent hG hS (h := Ok.bi h)) (by decide) (Nat.le_of_ble_eq_true rfl) (by decide) (by decide) dX0_plantScent_70 rfl (fun y_5 D_6 h => ?_)
    exact aw_iret rfl (by decide) (by decide) dX0_plantScent_73 ⟨_, rfl, rfl, (Ok.dn h :)⟩
  refine aw_aload_n (n := 1) (i := 0) dX0_plantScent_0 rfl rfl rfl ?_
  refine aw_getR (n := 4) (j := 1) (r := 40) hG.1 fl_RX0_22 (sF_57 hS) rfl dX0_plantScent_1 rfl ?_
  refine aw_getR (n := 7) (j := 0) (r := 41) hG.1 fl_RX0_55 (sF_40 hS) rfl dX0_plantScent_4 rfl ?_
  refine aw_iload_n (n := 8) (i := 1) dX0_plantScent_7 rfl rfl rfl ?_
  obtain ⟨g_1, h⟩ := Ok.gd h
  refine aw_iaload (n := 9) hG.1 (sF_41 hS) (aIn_in g_1) dX0_plantScent_8 rfl ?_
  refine aw_iconst (n := 10) (v := 1) dX0_plantScent_9 rfl (by decide) ?_
  refine aw_icmp_ne (n := 13) (tgt := 15) dX0_plantScent_10 rfl (by decide) (fun c => ?_) (fun c => ?_)
  · replace h := Ok.ift h c
    refine aw_aload_n (n := 16) (i := 0) dX0_plantScent_15 rfl rfl rfl ?_
    refine aw_getR (n := 19) (j := 1) (r := 40) hG.1 fl_RX0_22 (sF_57 hS) rfl dX0_plantScent_16 rfl ?_
    refine aw_getR (n := 22) (j := 0) (r := 41) hG.1 fl_RX0_55 (sF_40 hS) rfl dX0_plantScent_19 rfl ?_
    refine aw_iload_n (n := 23) (i := 1) dX0_plantScent_22 rfl rfl rfl ?_
    obtain ⟨g_2, h⟩ := Ok.gd h
    refine aw_iaload (n := 24) hG.1 (sF_41 hS) (aIn_in g_2) dX0_plantScent_23 rfl ?_
    refine aw_iconst (n := 25) (v := 2) dX0_plantScent_24 rfl (by decide) ?_
    refine aw_icmp_ne (n := 28) (tgt := 32) dX0_plantScent_25 rfl (by decide) (fun c => ?_) (fun c => ?_)
    · replace h := Ok.ift h c
      refine aw_iconst (n := 33) (v := 1) dX0_plantScent_32 rfl (by decide) ?_
      exact aw_le' (hJ_33 v1 v2 v3 v4 1 D h) ⟨rfl, ⟨rfl, ⟨rfl, ⟨rfl, ⟨rfl, trivial⟩⟩⟩⟩⟩
    · replace h := Ok.iffn h c
      refine aw_iconst (n := 29) (v := 3) dX0_plantScent_28 rfl (by decide) ?_
      refine aw_goto (tgt := 33) dX0_plantScent_29 (by decide) ?_
      exact aw_le' (hJ_33 v1 v2 v3 v4 3 D h) ⟨rfl, ⟨rfl, ⟨rfl, ⟨rfl, ⟨rfl, trivial⟩⟩⟩⟩⟩
  · replace h := Ok.iffn h c
    refine aw_iconst (n := 14) (v := 0) dX0_plantScent_13 rfl (by decide) ?_
    exact aw_iret rfl (by decide) (by decide) dX0_plantScent_14 ⟨_, rfl, rfl, (Ok.dn h :)⟩
theorem dX0_clear_0 : decode cX0_clear 0 = .ok (.aload_n 0, 1) := by decide +kernel
theorem dX0_clear_1 : decode cX0_clear 1 = .ok (.getfield 9, 3) := by decide +kernel
theorem dX0_clear_4 : decode cX0_clear 4 = .ok (.iconst 0, 1) := by decide +kernel
theorem dX0_clear_5 : decode cX0_clear 5 = .ok (.invokestatic 26, 3) := by decide +kernel
theorem dX0_clear_8 : decode cX0_clear 8 = .ok (.aload_n 0, 1) := by decide +kernel
theorem dX0_clear_9 : decode cX0_clear 9 = .ok (.getfield 15, 3) := by decide +kernel
theorem dX0_clear_12 : decode cX0_clear 12 = .ok (.iconst 0, 1) := by decide +kernel
theorem dX0_clear_13 : decode cX0_clear 13 = .ok (.invokestatic 26, 3) := by decide +kernel
theorem dX0_clear_16 : decode cX0_clear 16 = .ok (.return_, 1) := by decide +kernel
def f_X0_clear (D : aD) : Option (aD) :=
  (f_J7_fill_53178 58 6 0 D).bind (fun D_1 => (f_J7_fill_53178 59 30 0 D_1).bind (fun D_2 => some D_2))
set_option maxRecDepth 100000 in
set_option maxHeartbeats 800000 in
theorem c_X0_clear {G : aG} (hG : gOK G) {shp : List aSh} (hS : aShp shp) {fr : Option Nat} {D : aD} {K : aD → Prop} (h : Ok (f_X0_clear D) K) : AC G (aRm 2 0 0) M_X0_clear [.ref 57] fr shp D (aQv shp K) := by
  unfold f_X0_clear at h
  refine AC.of (al := [some (.ref 57)]) (r := 0) (by decide) (Nat.le_of_ble_eq_true rfl) rfl ?_
  refine aw_aload_n (n := 1) (i := 0) dX0_clear_0 rfl rfl rfl ?_
  refine aw_getR (n := 4) (j := 2) (r := 58) hG.1 fl_RX0_9 (sF_57 hS) rfl dX0_clear_1 rfl ?_
  refine aw_iconst (n := 5) (v := 0) dX0_clear_4 rfl (by decide) ?_
  refine aw_cSv (M := M_X0_clear) (n := 8) (As := [.ref 58, .int 0]) (rest := []) lk_RX0_26 rfl rfl (c_J7_fill_53178 hG (h := Ok.bind h) (sF_58 hS)) (by decide) (Nat.le_of_ble_eq_true rfl) (by decide) (by decide) dX0_clear_5 rfl (fun D_1 h => ?_)
  refine aw_aload_n (n := 9) (i := 0) dX0_clear_8 rfl rfl rfl ?_
  refine aw_getR (n := 12) (j := 3) (r := 59) hG.1 fl_RX0_15 (sF_57 hS) rfl dX0_clear_9 rfl ?_
  refine aw_iconst (n := 13) (v := 0) dX0_clear_12 rfl (by decide) ?_
  refine aw_cSv (M := M_X0_clear) (n := 16) (As := [.ref 59, .int 0]) (rest := []) lk_RX0_26 rfl rfl (c_J7_fill_53178 hG (h := Ok.bind h) (sF_59 hS)) (by decide) (Nat.le_of_ble_eq_true rfl) (by decide) (by decide) dX0_clear_13 rfl (fun D_2 h => ?_)
  exact aw_vret rfl (by decide) (by decide) dX0_clear_16 ⟨rfl, rfl, (Ok.dn h :)⟩
theorem dX0_add_0 : decode cX0_add 0 = .ok (.aload_n 0, 1) := by decide +kernel
theorem dX0_add_1 : decode cX0_add 1 = .ok (.getfield 9, 3) := by decide +kernel
theorem dX0_add_4 : decode cX0_add 4 = .ok (.iload_n 1, 1) := by decide +kernel
theorem dX0_add_5 : decode cX0_add 5 = .ok (.dup2, 1) := by decide +kernel
theorem dX0_add_6 : decode cX0_add 6 = .ok (.iaload, 1) := by decide +kernel
theorem dX0_add_7 : decode cX0_add 7 = .ok (.iload_n 3, 1) := by decide +kernel
theorem dX0_add_8 : decode cX0_add 8 = .ok (.iadd, 1) := by decide +kernel
theorem dX0_add_9 : decode cX0_add 9 = .ok (.iastore, 1) := by decide +kernel
theorem dX0_add_10 : decode cX0_add 10 = .ok (.iload_n 2, 1) := by decide +kernel
theorem dX0_add_11 : decode cX0_add 11 = .ok (.iconst (-1), 1) := by decide +kernel
theorem dX0_add_12 : decode cX0_add 12 = .ok (.if_icmp .eq 18, 3) := by decide +kernel
theorem dX0_add_15 : decode cX0_add 15 = .ok (.aload_n 0, 1) := by decide +kernel
theorem dX0_add_16 : decode cX0_add 16 = .ok (.getfield 15, 3) := by decide +kernel
theorem dX0_add_19 : decode cX0_add 19 = .ok (.iload_n 2, 1) := by decide +kernel
theorem dX0_add_20 : decode cX0_add 20 = .ok (.bipush 6, 2) := by decide +kernel
theorem dX0_add_22 : decode cX0_add 22 = .ok (.imul, 1) := by decide +kernel
theorem dX0_add_23 : decode cX0_add 23 = .ok (.iload_n 1, 1) := by decide +kernel
theorem dX0_add_24 : decode cX0_add 24 = .ok (.iadd, 1) := by decide +kernel
theorem dX0_add_25 : decode cX0_add 25 = .ok (.dup2, 1) := by decide +kernel
theorem dX0_add_26 : decode cX0_add 26 = .ok (.iaload, 1) := by decide +kernel
theorem dX0_add_27 : decode cX0_add 27 = .ok (.iload_n 3, 1) := by decide +kernel
theorem dX0_add_28 : decode cX0_add 28 = .ok (.iadd, 1) := by decide +kernel
theorem dX0_add_29 : decode cX0_add 29 = .ok (.iastore, 1) := by decide +kernel
theorem dX0_add_30 : decode cX0_add 30 = .ok (.return_, 1) := by decide +kernel
def f_X0_add (v1 : Int32) (v2 : Int32) (v3 : Int32) (D : aD) : Option (aD) :=
  aGd (aIn v1 6) (aGd (aIn v1 6) (aLet (pI D 58 v1.toNatClampNeg ((gI D 58 v1.toNatClampNeg) + v3)) (fun D_3 => if v2 = (-1) then (some D_3) else (aGd (aIn ((v2 * 6) + v1) 30) (aGd (aIn ((v2 * 6) + v1) 30) (aLet (pI D_3 59 ((v2 * 6) + v1).toNatClampNeg ((gI D_3 59 ((v2 * 6) + v1).toNatClampNeg) + v3)) (fun D_6 => some D_6)))))))
set_option maxRecDepth 100000 in
set_option maxHeartbeats 800000 in
theorem c_X0_add {G : aG} (hG : gOK G) {shp : List aSh} (hS : aShp shp) {fr : Option Nat} {v1 : Int32} {v2 : Int32} {v3 : Int32} {D : aD} {K : aD → Prop} (h : Ok (f_X0_add v1 v2 v3 D) K) : AC G (aRm 1 0 0) M_X0_add [.ref 57, .int v1, .int v2, .int v3] fr shp D (aQv shp K) := by
  unfold f_X0_add at h
  refine AC.of (al := [some (.ref 57), some (.int v1), some (.int v2), some (.int v3)]) (r := 0) (by decide) (Nat.le_of_ble_eq_true rfl) rfl ?_
  refine aw_aload_n (n := 1) (i := 0) dX0_add_0 rfl rfl rfl ?_
  refine aw_getR (n := 4) (j := 2) (r := 58) hG.1 fl_RX0_9 (sF_57 hS) rfl dX0_add_1 rfl ?_
  refine aw_iload_n (n := 5) (i := 1) dX0_add_4 rfl rfl rfl ?_
  refine aw_dup2 (n := 6) dX0_add_5 rfl rfl rfl ?_
  obtain ⟨g_1, h⟩ := Ok.gd h
  refine aw_iaload (n := 7) hG.1 (sF_58 hS) (aIn_in g_1) dX0_add_6 rfl ?_
  refine aw_iload_n (n := 8) (i := 3) dX0_add_7 rfl rfl rfl ?_
  refine aw_iadd (n := 9) dX0_add_8 rfl ?_
  obtain ⟨g_2, h⟩ := Ok.gd h
  obtain ⟨D_3, e_D_3, h⟩ := Ok.let_ h
  refine aw_iastore (n := 10) hG.1 (sF_58 hS) (aIn_in g_2) e_D_3 dX0_add_9 rfl ?_
  refine aw_iload_n (n := 11) (i := 2) dX0_add_10 rfl rfl rfl ?_
  refine aw_iconst (n := 12) (v := (-1)) dX0_add_11 rfl (by decide) ?_
  refine aw_icmp_eq (n := 15) (tgt := 30) dX0_add_12 rfl (by decide) (fun c => ?_) (fun c => ?_)
  · replace h := Ok.ift h c
    exact aw_vret rfl (by decide) (by decide) dX0_add_30 ⟨rfl, rfl, (Ok.dn h :)⟩
  · replace h := Ok.iff h c
    refine aw_aload_n (n := 16) (i := 0) dX0_add_15 rfl rfl rfl ?_
    refine aw_getR (n := 19) (j := 3) (r := 59) hG.1 fl_RX0_15 (sF_57 hS) rfl dX0_add_16 rfl ?_
    refine aw_iload_n (n := 20) (i := 2) dX0_add_19 rfl rfl rfl ?_
    refine aw_bipush (n := 22) (v := 6) dX0_add_20 rfl (by decide) ?_
    refine aw_imul (n := 23) dX0_add_22 rfl ?_
    refine aw_iload_n (n := 24) (i := 1) dX0_add_23 rfl rfl rfl ?_
    refine aw_iadd (n := 25) dX0_add_24 rfl ?_
    refine aw_dup2 (n := 26) dX0_add_25 rfl rfl rfl ?_
    obtain ⟨g_4, h⟩ := Ok.gd h
    refine aw_iaload (n := 27) hG.1 (sF_59 hS) (aIn_in g_4) dX0_add_26 rfl ?_
    refine aw_iload_n (n := 28) (i := 3) dX0_add_27 rfl rfl rfl ?_
    refine aw_iadd (n := 29) dX0_add_28 rfl ?_
    obtain ⟨g_5, h⟩ := Ok.gd h
    obtain ⟨D_6, e_D_6, h⟩ := Ok.let_ h
    refine aw_iastore (n := 30) hG.1 (sF_59 hS) (aIn_in g_5) e_D_6 dX0_add_29 rfl ?_
    exact aw_vret rfl (by decide) (by decide) dX0_add_30 ⟨rfl, rfl, (Ok.dn h :)⟩
theorem dX0_fill_0 : decode cX0_fill 0 = .ok (.aload_n 0, 1) := by decide +kernel
theorem dX0_fill_1 : decode cX0_fill 1 = .ok (.invokevirtual 32, 3) := by decide +kernel
theorem dX0_fill_4 : decode cX0_fill 4 = .ok (.iconst 0, 1) := by decide +kernel
theorem dX0_fill_5 : decode cX0_fill 5 = .ok (.istore 4, 2) := by decide +kernel
theorem dX0_fill_7 : decode cX0_fill 7 = .ok (.iload 4, 2) := by decide +kernel
theorem dX0_fill_9 : decode cX0_fill 9 = .ok (.aload_n 0, 1) := by decide +kernel
theorem dX0_fill_10 : decode cX0_fill 10 = .ok (.getfield 18, 3) := by decide +kernel
theorem dX0_fill_13 : decode cX0_fill 13 = .ok (.getfield 35, 3) := by decide +kernel
theorem dX0_fill_16 : decode cX0_fill 16 = .ok (.if_icmp .ge 46, 3) := by decide +kernel
theorem dX0_fill_19 : decode cX0_fill 19 = .ok (.aload_n 0, 1) := by decide +kernel
theorem dX0_fill_20 : decode cX0_fill 20 = .ok (.iload 4, 2) := by decide +kernel
theorem dX0_fill_22 : decode cX0_fill 22 = .ok (.iload_n 1, 1) := by decide +kernel
theorem dX0_fill_23 : decode cX0_fill 23 = .ok (.iload_n 2, 1) := by decide +kernel
theorem dX0_fill_24 : decode cX0_fill 24 = .ok (.iload_n 3, 1) := by decide +kernel
theorem dX0_fill_25 : decode cX0_fill 25 = .ok (.invokevirtual 41, 3) := by decide +kernel
theorem dX0_fill_28 : decode cX0_fill 28 = .ok (.istore 5, 2) := by decide +kernel
theorem dX0_fill_30 : decode cX0_fill 30 = .ok (.aload_n 0, 1) := by decide +kernel
theorem dX0_fill_31 : decode cX0_fill 31 = .ok (.aload_n 0, 1) := by decide +kernel
theorem dX0_fill_32 : decode cX0_fill 32 = .ok (.getfield 18, 3) := by decide +kernel
theorem dX0_fill_35 : decode cX0_fill 35 = .ok (.getfield 45, 3) := by decide +kernel
theorem dX0_fill_38 : decode cX0_fill 38 = .ok (.iload 4, 2) := by decide +kernel
theorem dX0_fill_40 : decode cX0_fill 40 = .ok (.iaload, 1) := by decide +kernel
theorem dX0_fill_41 : decode cX0_fill 41 = .ok (.aload_n 0, 1) := by decide +kernel
theorem dX0_fill_42 : decode cX0_fill 42 = .ok (.getfield 18, 3) := by decide +kernel
theorem dX0_fill_45 : decode cX0_fill 45 = .ok (.getfield 48, 3) := by decide +kernel
theorem dX0_fill_48 : decode cX0_fill 48 = .ok (.iload 4, 2) := by decide +kernel
theorem dX0_fill_50 : decode cX0_fill 50 = .ok (.iaload, 1) := by decide +kernel
theorem dX0_fill_51 : decode cX0_fill 51 = .ok (.iload 5, 2) := by decide +kernel
theorem dX0_fill_53 : decode cX0_fill 53 = .ok (.invokevirtual 51, 3) := by decide +kernel
theorem dX0_fill_56 : decode cX0_fill 56 = .ok (.iinc 4 1, 3) := by decide +kernel
theorem dX0_fill_59 : decode cX0_fill 59 = .ok (.goto (-52), 3) := by decide +kernel
theorem dX0_fill_62 : decode cX0_fill 62 = .ok (.return_, 1) := by decide +kernel
def J_X0_fill_62 (D : aD) : Option (aD) :=
  some D
def B_X0_fill_7 (v1 : Int32) (v2 : Int32) (v3 : Int32) (v4 : Int32) (D : aD) : Option ((Int32 × aD) ⊕ ((aD))) :=
  if gI D 2 4 ≤ v4 then (some (.inr D)) else (aBi (f_X0_plantScent v4 v1 v2 v3 D) (fun y_2 D_3 => aGd (aIn v4 12) (aGd (aIn v4 12) ((f_X0_add (gI D_3 8 v4.toNatClampNeg) (gI D_3 10 v4.toNatClampNeg) y_2 D_3).bind (fun D_6 => aLet (v4 + 1) (fun v4_7 => some (.inl (v4_7, D_6))))))))
def J_X0_fill_7 (v1 : Int32) (v2 : Int32) (v3 : Int32) (v4 : Int32) (D : aD) : Option (aD) :=
  (aLp (fun s => B_X0_fill_7 v1 v2 v3 s.1 s.2) (v4, D)).bind (fun r => J_X0_fill_62 r)
def f_X0_fill (v1 : Int32) (v2 : Int32) (v3 : Int32) (D : aD) : Option (aD) :=
  (f_X0_clear D).bind (fun D_1 => J_X0_fill_7 v1 v2 v3 0 D_1)
set_option maxRecDepth 100000 in
set_option maxHeartbeats 800000 in
theorem c_X0_fill {G : aG} (hG : gOK G) {shp : List aSh} (hS : aShp shp) {fr : Option Nat} {v1 : Int32} {v2 : Int32} {v3 : Int32} {D : aD} {K : aD → Prop} (h : Ok (f_X0_fill v1 v2 v3 D) K) : AC G (aRm 4 0 0) M_X0_fill [.ref 57, .int v1, .int v2, .int v3] fr shp D (aQv shp K) := by
  unfold f_X0_fill at h
  refine AC.of (al := [some (.ref 57), some (.int v1), some (.int v2), some (.int v3), none, none]) (r := 2) (by decide) (Nat.le_of_ble_eq_true rfl) rfl ?_
  have hJ_62 : ∀ (D : aD), Ok (J_X0_fill_62 D) K → AW G (aRm 4 0 0) M_X0_fill fr 0 0 62 [none, none, none, none, none, none] [] shp D (aQv shp K) := by
    intro D h
    unfold J_X0_fill_62 at h
    exact aw_vret rfl (by decide) (by decide) dX0_fill_62 ⟨rfl, rfl, (Ok.dn h :)⟩
  have hJ_7 : ∀ (v1 : Int32) (v2 : Int32) (v3 : Int32) (v4 : Int32) (D : aD), Ok (J_X0_fill_7 v1 v2 v3 v4 D) K → AW G (aRm 4 0 0) M_X0_fill fr 0 0 7 [some (.ref 57), some (.int v1), some (.int v2), some (.int v3), some (.int v4), none] [] shp D (aQv shp K) := by
    intro v1 v2 v3 v4 D h
    unfold J_X0_fill_7 at h
    refine Ok.lp (P := fun s => AW G (aRm 4 0 0) M_X0_fill fr 0 0 7 [some (.ref 57), some (.int v1), some (.int v2), some (.int v3), some (.int (s.1)), none] [] shp s.2 (aQv shp K)) (fun s Kb7 hL7 hR7 h => ?_) (v4, D) (Ok.bind h)
    obtain ⟨v4, D⟩ := s
    replace h : Ok (B_X0_fill_7 v1 v2 v3 v4 D) Kb7 := h
    unfold B_X0_fill_7 at h
    refine aw_iload (n := 9) (i := 4) dX0_fill_7 rfl rfl ?_
    refine aw_aload_n (n := 10) (i := 0) dX0_fill_9 rfl rfl rfl ?_
    refine aw_getR (n := 13) (j := 0) (r := 2) hG.1 fl_RX0_18 (sF_57 hS) rfl dX0_fill_10 rfl ?_
    refine aw_getI (n := 16) (j := 4) hG.1 fl_RX0_35 (sF_2 hS) rfl dX0_fill_13 rfl ?_
    refine aw_icmp_ge (n := 19) (tgt := 62) dX0_fill_16 rfl (by decide) (fun c => ?_) (fun c => ?_)
    · replace h := Ok.ift h c
      exact aw_le' (hJ_62 D (hR7 D (Ok.dn h :))) trivial
    · replace h := Ok.iff h c
      refine aw_aload_n (n := 20) (i := 0) dX0_fill_19 rfl rfl rfl ?_
      refine aw_iload (n := 22) (i := 4) dX0_fill_20 rfl rfl ?_
      refine aw_iload_n (n := 23) (i := 1) dX0_fill_22 rfl rfl rfl ?_
      refine aw_iload_n (n := 24) (i := 2) dX0_fill_23 rfl rfl rfl ?_
      refine aw_iload_n (n := 25) (i := 3) dX0_fill_24 rfl rfl rfl ?_
      refine aw_cVi (M := M_X0_fill) (n := 28) (As := [.int v4, .int v1, .int v2, .int v3]) (rest := []) hG.1 lk_RX0_41 rfl rfl (sF_57 hS) (c_X0_plantScent hG hS (h := Ok.bi h)) (by decide) (Nat.le_of_ble_eq_true rfl) (by decide) (by decide) dX0_fill_25 rfl (fun y_2 D_3 h => ?_)
      refine aw_istore (n := 30) (i := 5) (al' := [some (.ref 57), some (.int v1), some (.int v2), some (.int v3), some (.int v4), some (.int y_2)]) dX0_fill_28 rfl rfl (by decide) rfl ?_
      refine aw_aload_n (n := 31) (i := 0) dX0_fill_30 rfl rfl rfl ?_
      refine aw_aload_n (n := 32) (i := 0) dX0_fill_31 rfl rfl rfl ?_
      refine aw_getR (n := 35) (j := 0) (r := 2) hG.1 fl_RX0_18 (sF_57 hS) rfl dX0_fill_32 rfl ?_
      refine aw_getR (n := 38) (j := 10) (r := 8) hG.1 fl_RX0_45 (sF_2 hS) rfl dX0_fill_35 rfl ?_
      refine aw_iload (n := 40) (i := 4) dX0_fill_38 rfl rfl ?_
      obtain ⟨g_4, h⟩ := Ok.gd h
      refine aw_iaload (n := 41) hG.1 (sF_8 hS) (aIn_in g_4) dX0_fill_40 rfl ?_
      refine aw_aload_n (n := 42) (i := 0) dX0_fill_41 rfl rfl rfl ?_
      refine aw_getR (n := 45) (j := 0) (r := 2) hG.1 fl_RX0_18 (sF_57 hS) rfl dX0_fill_42 rfl ?_
      refine aw_getR (n := 48) (j := 12) (r := 10) hG.1 fl_RX0_48 (sF_2 hS) rfl dX0_fill_45 rfl ?_
      refine aw_iload (n := 50) (i := 4) dX0_fill_48 rfl rfl ?_
      obtain ⟨g_5, h⟩ := Ok.gd h
      refine aw_iaload (n := 51) hG.1 (sF_10 hS) (aIn_in g_5) dX0_fill_50 rfl ?_
      refine aw_iload (n := 53) (i := 5) dX0_fill_51 rfl rfl ?_
      refine aw_cVv (M := M_X0_fill) (n := 56) (As := [.int (gI D_3 8 v4.toNatClampNeg), .int (gI D_3 10 v4.toNatClampNeg), .int y_2]) (rest := []) hG.1 lk_RX0_51 rfl rfl (sF_57 hS) (c_X0_add hG hS (h := Ok.bind h)) (by decide) (Nat.le_of_ble_eq_true rfl) (by decide) (by decide) dX0_fill_53 rfl (fun D_6 h => ?_)
      obtain ⟨v4_7, e_v4_7, h⟩ := Ok.let_ h
      refine aw_iinc (n := 59) (al' := [some (.ref 57), some (.int v1), some (.int v2), some (.int v3), some (.int v4_7), some (.int y_2)]) dX0_fill_56 rfl rfl e_v4_7 (by decide) rfl ?_
      refine aw_goto (tgt := 7) dX0_fill_59 (by decide) ?_
      exact aw_le' (hL7 (v4_7, D_6) (Ok.dn h :)) ⟨rfl, ⟨rfl, ⟨rfl, ⟨rfl, ⟨rfl, trivial⟩⟩⟩⟩⟩
  refine aw_aload_n (n := 1) (i := 0) dX0_fill_0 rfl rfl rfl ?_
  refine aw_cVv (M := M_X0_fill) (n := 4) (As := []) (rest := []) hG.1 lk_RX0_32 rfl rfl (sF_57 hS) (c_X0_clear hG hS (h := Ok.bind h)) (by decide) (Nat.le_of_ble_eq_true rfl) (by decide) (by decide) dX0_fill_1 rfl (fun D_1 h => ?_)
  refine aw_iconst (n := 5) (v := 0) dX0_fill_4 rfl (by decide) ?_
  refine aw_istore (n := 7) (i := 4) (al' := [some (.ref 57), some (.int v1), some (.int v2), some (.int v3), some (.int 0), none]) dX0_fill_5 rfl rfl (by decide) rfl ?_
  exact aw_le' (hJ_7 v1 v2 v3 0 D_1 h) ⟨rfl, ⟨rfl, ⟨rfl, ⟨rfl, ⟨rfl, trivial⟩⟩⟩⟩⟩
theorem dX0_masked_0 : decode cX0_masked 0 = .ok (.aload_n 0, 1) := by decide +kernel
theorem dX0_masked_1 : decode cX0_masked 1 = .ok (.getfield 9, 3) := by decide +kernel
theorem dX0_masked_4 : decode cX0_masked 4 = .ok (.iload_n 1, 1) := by decide +kernel
theorem dX0_masked_5 : decode cX0_masked 5 = .ok (.iaload, 1) := by decide +kernel
theorem dX0_masked_6 : decode cX0_masked 6 = .ok (.istore_n 2, 1) := by decide +kernel
theorem dX0_masked_7 : decode cX0_masked 7 = .ok (.aload_n 0, 1) := by decide +kernel
theorem dX0_masked_8 : decode cX0_masked 8 = .ok (.getfield 18, 3) := by decide +kernel
theorem dX0_masked_11 : decode cX0_masked 11 = .ok (.getfield 70, 3) := by decide +kernel
theorem dX0_masked_14 : decode cX0_masked 14 = .ok (.iload_n 1, 1) := by decide +kernel
theorem dX0_masked_15 : decode cX0_masked 15 = .ok (.baload, 1) := by decide +kernel
theorem dX0_masked_16 : decode cX0_masked 16 = .ok (.ifCond .ne 5, 3) := by decide +kernel
theorem dX0_masked_19 : decode cX0_masked 19 = .ok (.iload_n 2, 1) := by decide +kernel
theorem dX0_masked_20 : decode cX0_masked 20 = .ok (.ireturn, 1) := by decide +kernel
theorem dX0_masked_21 : decode cX0_masked 21 = .ok (.iconst 0, 1) := by decide +kernel
theorem dX0_masked_22 : decode cX0_masked 22 = .ok (.istore_n 3, 1) := by decide +kernel
theorem dX0_masked_23 : decode cX0_masked 23 = .ok (.iload_n 3, 1) := by decide +kernel
theorem dX0_masked_24 : decode cX0_masked 24 = .ok (.aload_n 0, 1) := by decide +kernel
theorem dX0_masked_25 : decode cX0_masked 25 = .ok (.getfield 18, 3) := by decide +kernel
theorem dX0_masked_28 : decode cX0_masked 28 = .ok (.getfield 74, 3) := by decide +kernel
theorem dX0_masked_31 : decode cX0_masked 31 = .ok (.if_icmp .ge 36, 3) := by decide +kernel
theorem dX0_masked_34 : decode cX0_masked 34 = .ok (.iload_n 2, 1) := by decide +kernel
theorem dX0_masked_35 : decode cX0_masked 35 = .ok (.aload_n 0, 1) := by decide +kernel
theorem dX0_masked_36 : decode cX0_masked 36 = .ok (.getfield 18, 3) := by decide +kernel
theorem dX0_masked_39 : decode cX0_masked 39 = .ok (.getfield 77, 3) := by decide +kernel
theorem dX0_masked_42 : decode cX0_masked 42 = .ok (.iload_n 3, 1) := by decide +kernel
theorem dX0_masked_43 : decode cX0_masked 43 = .ok (.bipush 6, 2) := by decide +kernel
theorem dX0_masked_45 : decode cX0_masked 45 = .ok (.imul, 1) := by decide +kernel
theorem dX0_masked_46 : decode cX0_masked 46 = .ok (.iload_n 1, 1) := by decide +kernel
theorem dX0_masked_47 : decode cX0_masked 47 = .ok (.iadd, 1) := by decide +kernel
theorem dX0_masked_48 : decode cX0_masked 48 = .ok (.iaload, 1) := by decide +kernel
theorem dX0_masked_49 : decode cX0_masked 49 = .ok (.aload_n 0, 1) := by decide +kernel
theorem dX0_masked_50 : decode cX0_masked 50 = .ok (.getfield 9, 3) := by decide +kernel
theorem dX0_masked_53 : decode cX0_masked 53 = .ok (.iload_n 3, 1) := by decide +kernel
theorem dX0_masked_54 : decode cX0_masked 54 = .ok (.iaload, 1) := by decide +kernel
theorem dX0_masked_55 : decode cX0_masked 55 = .ok (.imul, 1) := by decide +kernel
theorem dX0_masked_56 : decode cX0_masked 56 = .ok (.bipush 100, 2) := by decide +kernel
theorem dX0_masked_58 : decode cX0_masked 58 = .ok (.idiv, 1) := by decide +kernel
theorem dX0_masked_59 : decode cX0_masked 59 = .ok (.isub, 1) := by decide +kernel
theorem dX0_masked_60 : decode cX0_masked 60 = .ok (.istore_n 2, 1) := by decide +kernel
theorem dX0_masked_61 : decode cX0_masked 61 = .ok (.iinc 3 1, 3) := by decide +kernel
theorem dX0_masked_64 : decode cX0_masked 64 = .ok (.goto (-41), 3) := by decide +kernel
theorem dX0_masked_67 : decode cX0_masked 67 = .ok (.iload_n 2, 1) := by decide +kernel
theorem dX0_masked_68 : decode cX0_masked 68 = .ok (.ifCond .ge 7, 3) := by decide +kernel
theorem dX0_masked_71 : decode cX0_masked 71 = .ok (.iconst 0, 1) := by decide +kernel
theorem dX0_masked_72 : decode cX0_masked 72 = .ok (.goto 4, 3) := by decide +kernel
theorem dX0_masked_75 : decode cX0_masked 75 = .ok (.iload_n 2, 1) := by decide +kernel
theorem dX0_masked_76 : decode cX0_masked 76 = .ok (.ireturn, 1) := by decide +kernel
def J_X0_masked_67 (v2 : Int32) (D : aD) : Option (Int32 × aD) :=
  if 0 ≤ v2 then (some (v2, D)) else (some (0, D))
def B_X0_masked_23 (v1 : Int32) (v2 : Int32) (v3 : Int32) (D : aD) : Option ((Int32 × Int32 × aD) ⊕ ((Int32 × aD))) :=
  if gI D 2 2 ≤ v3 then (some (.inr (v2, D))) else (aGd (aIn ((v3 * 6) + v1) 36) (aGd (aIn v3 6) (aLet (v2 - (((gI D 12 ((v3 * 6) + v1).toNatClampNeg) * (gI D 58 v3.toNatClampNeg)) / 100)) (fun v2_6 => aLet (v3 + 1) (fun v3_7 => some (.inl (v2_6, v3_7, D)))))))
def J_X0_masked_23 (v1 : Int32) (v2 : Int32) (v3 : Int32) (D : aD) : Option (Int32 × aD) :=
  (aLp (fun s => B_X0_masked_23 v1 s.1 s.2.1 s.2.2) (v2, v3, D)).bind (fun r => J_X0_masked_67 (r.1) r.2)
def f_X0_masked (v1 : Int32) (D : aD) : Option (Int32 × aD) :=
  aGd (aIn v1 6) (aLet (gI D 58 v1.toNatClampNeg) (fun v2_2 => aGd (aIn v1 6) (if gI D 13 v1.toNatClampNeg ≠ 0 then (J_X0_masked_23 v1 v2_2 0 D) else (some (v2_2, D)))))
set_option maxRecDepth 100000 in
set_option maxHeartbeats 800000 in
theorem c_X0_masked {G : aG} (hG : gOK G) {shp : List aSh} (hS : aShp shp) {fr : Option Nat} {v1 : Int32} {D : aD} {K : Int32 → aD → Prop} (h : Ok2 (f_X0_masked v1 D) K) : AC G (aRm 1 0 0) M_X0_masked [.ref 57, .int v1] fr shp D (aQi shp K) := by
  replace h := Ok2.ok h
  unfold f_X0_masked at h
  refine AC.of (al := [some (.ref 57), some (.int v1), none, none]) (r := 2) (by decide) (Nat.le_of_ble_eq_true rfl) rfl ?_
  have hJ_67 : ∀ (v2 : Int32) (D : aD), Ok (J_X0_masked_67 v2 D) (fun r => K r.1 r.2) → AW G (aRm 1 0 0) M_X0_masked fr 0 0 67 [none, none, some (.int v2), none] [] shp D (aQi shp K) := by
    intro v2 D h
    unfold J_X0_masked_67 at h
    refine aw_iload_n (n := 68) (i := 2) dX0_masked_67 rfl rfl rfl ?_
    refine aw_if_ge (n := 71) (tgt := 75) dX0_masked_68 rfl (by decide) (fun c => ?_) (fun c => ?_)
    · replace h := Ok.ift h c
      refine aw_iload_n (n := 76) (i := 2) dX0_masked_75 rfl rfl rfl ?_
      exact aw_iret rfl (by decide) (by decide) dX0_masked_76 ⟨_, rfl, rfl, (Ok.dn h :)⟩
    · replace h := Ok.iff h c
      refine aw_iconst (n := 72) (v := 0) dX0_masked_71 rfl (by decide) ?_
      refine aw_goto (tgt := 76) dX0_masked_72 (by decide) ?_
      exact aw_iret rfl (by decide) (by decide) dX0_masked_76 ⟨_, rfl, rfl, (Ok.dn h :)⟩
  have hJ_23 : ∀ (v1 : Int32) (v2 : Int32) (v3 : Int32) (D : aD), Ok (J_X0_masked_23 v1 v2 v3 D) (fun r => K r.1 r.2) → AW G (aRm 1 0 0) M_X0_masked fr 0 0 23 [some (.ref 57), some (.int v1), some (.int v2), some (.int v3)] [] shp D (aQi shp K) := by
    intro v1 v2 v3 D h
    unfold J_X0_masked_23 at h
    refine Ok.lp (P := fun s => AW G (aRm 1 0 0) M_X0_masked fr 0 0 23 [some (.ref 57), some (.int v1), some (.int (s.1)), some (.int (s.2.1))] [] shp s.2.2 (aQi shp K)) (fun s Kb23 hL23 hR23 h => ?_) (v2, v3, D) (Ok.bind h)
    obtain ⟨v2, v3, D⟩ := s
    replace h : Ok (B_X0_masked_23 v1 v2 v3 D) Kb23 := h
    unfold B_X0_masked_23 at h
    refine aw_iload_n (n := 24) (i := 3) dX0_masked_23 rfl rfl rfl ?_
    refine aw_aload_n (n := 25) (i := 0) dX0_masked_24 rfl rfl rfl ?_
    refine aw_getR (n := 28) (j := 0) (r := 2) hG.1 fl_RX0_18 (sF_57 hS) rfl dX0_masked_25 rfl ?_
    refine aw_getI (n := 31) (j := 2) hG.1 fl_RX0_74 (sF_2 hS) rfl dX0_masked_28 rfl ?_
    refine aw_icmp_ge (n := 34) (tgt := 67) dX0_masked_31 rfl (by decide) (fun c => ?_) (fun c => ?_)
    · replace h := Ok.ift h c
      exact aw_le' (hJ_67 v2 D (hR23 (v2, D) (Ok.dn h :))) ⟨rfl, trivial⟩
    · replace h := Ok.iff h c
      refine aw_iload_n (n := 35) (i := 2) dX0_masked_34 rfl rfl rfl ?_
      refine aw_aload_n (n := 36) (i := 0) dX0_masked_35 rfl rfl rfl ?_
      refine aw_getR (n := 39) (j := 0) (r := 2) hG.1 fl_RX0_18 (sF_57 hS) rfl dX0_masked_36 rfl ?_
      refine aw_getR (n := 42) (j := 14) (r := 12) hG.1 fl_RX0_77 (sF_2 hS) rfl dX0_masked_39 rfl ?_
      refine aw_iload_n (n := 43) (i := 3) dX0_masked_42 rfl rfl rfl ?_
      refine aw_bipush (n := 45) (v := 6) dX0_masked_43 rfl (by decide) ?_
      refine aw_imul (n := 46) dX0_masked_45 rfl ?_
      refine aw_iload_n (n := 47) (i := 1) dX0_masked_46 rfl rfl rfl ?_
      refine aw_iadd (n := 48) dX0_masked_47 rfl ?_
      obtain ⟨g_4, h⟩ := Ok.gd h
      refine aw_iaload (n := 49) hG.1 (sF_12 hS) (aIn_in g_4) dX0_masked_48 rfl ?_
      refine aw_aload_n (n := 50) (i := 0) dX0_masked_49 rfl rfl rfl ?_
      refine aw_getR (n := 53) (j := 2) (r := 58) hG.1 fl_RX0_9 (sF_57 hS) rfl dX0_masked_50 rfl ?_
      refine aw_iload_n (n := 54) (i := 3) dX0_masked_53 rfl rfl rfl ?_
      obtain ⟨g_5, h⟩ := Ok.gd h
      refine aw_iaload (n := 55) hG.1 (sF_58 hS) (aIn_in g_5) dX0_masked_54 rfl ?_
      refine aw_imul (n := 56) dX0_masked_55 rfl ?_
      refine aw_bipush (n := 58) (v := 100) dX0_masked_56 rfl (by decide) ?_
      refine aw_idiv (n := 59) dX0_masked_58 rfl (by decide) ?_
      refine aw_isub (n := 60) dX0_masked_59 rfl ?_
      obtain ⟨v2_6, e_v2_6, h⟩ := Ok.let_ h
      refine aw_istore_n (n := 61) (i := 2) (al' := [some (.ref 57), some (.int v1), some (.int v2_6), some (.int v3)]) dX0_masked_60 rfl rfl e_v2_6 (by decide) rfl ?_
      obtain ⟨v3_7, e_v3_7, h⟩ := Ok.let_ h
      refine aw_iinc (n := 64) (al' := [some (.ref 57), some (.int v1), some (.int v2_6), some (.int v3_7)]) dX0_masked_61 rfl rfl e_v3_7 (by decide) rfl ?_
      refine aw_goto (tgt := 23) dX0_masked_64 (by decide) ?_
      exact aw_le' (hL23 (v2_6, v3_7, D) (Ok.dn h :)) ⟨rfl, ⟨rfl, ⟨rfl, ⟨rfl, trivial⟩⟩⟩⟩
  refine aw_aload_n (n := 1) (i := 0) dX0_masked_0 rfl rfl rfl ?_
  refine aw_getR (n := 4) (j := 2) (r := 58) hG.1 fl_RX0_9 (sF_57 hS) rfl dX0_masked_1 rfl ?_
  refine aw_iload_n (n := 5) (i := 1) dX0_masked_4 rfl rfl rfl ?_
  obtain ⟨g_1, h⟩ := Ok.gd h
  refine aw_iaload (n := 6) hG.1 (sF_58 hS) (aIn_in g_1) dX0_masked_5 rfl ?_
  obtain ⟨v2_2, e_v2_2, h⟩ := Ok.let_ h
  refine aw_istore_n (n := 7) (i := 2) (al' := [some (.ref 57), some (.int v1), some (.int v2_2), none]) dX0_masked_6 rfl rfl e_v2_2 (by decide) rfl ?_
  refine aw_aload_n (n := 8) (i := 0) dX0_masked_7 rfl rfl rfl ?_
  refine aw_getR (n := 11) (j := 0) (r := 2) hG.1 fl_RX0_18 (sF_57 hS) rfl dX0_masked_8 rfl ?_
  refine aw_getR (n := 14) (j := 15) (r := 13) hG.1 fl_RX0_70 (sF_2 hS) rfl dX0_masked_11 rfl ?_
  refine aw_iload_n (n := 15) (i := 1) dX0_masked_14 rfl rfl rfl ?_
  obtain ⟨g_3, h⟩ := Ok.gd h
  refine aw_zaload (n := 16) hG.1 (sF_13 hS) (aIn_in g_3) dX0_masked_15 rfl ?_
  refine aw_if_ne (n := 19) (tgt := 21) dX0_masked_16 rfl (by decide) (fun c => ?_) (fun c => ?_)
  · replace h := Ok.ift h c
    refine aw_iconst (n := 22) (v := 0) dX0_masked_21 rfl (by decide) ?_
    refine aw_istore_n (n := 23) (i := 3) (al' := [some (.ref 57), some (.int v1), some (.int v2_2), some (.int 0)]) dX0_masked_22 rfl rfl rfl (by decide) rfl ?_
    exact aw_le' (hJ_23 v1 v2_2 0 D h) ⟨rfl, ⟨rfl, ⟨rfl, ⟨rfl, trivial⟩⟩⟩⟩
  · replace h := Ok.iffn h c
    refine aw_iload_n (n := 20) (i := 2) dX0_masked_19 rfl rfl rfl ?_
    exact aw_iret rfl (by decide) (by decide) dX0_masked_20 ⟨_, rfl, rfl, (Ok.dn h :)⟩
theorem dX0_noticed_0 : decode cX0_noticed 0 = .ok (.iload_n 1, 1) := by decide +kernel
theorem dX0_noticed_1 : decode cX0_noticed 1 = .ok (.aload_n 0, 1) := by decide +kernel
theorem dX0_noticed_2 : decode cX0_noticed 2 = .ok (.getfield 18, 3) := by decide +kernel
theorem dX0_noticed_5 : decode cX0_noticed 5 = .ok (.getfield 80, 3) := by decide +kernel
theorem dX0_noticed_8 : decode cX0_noticed 8 = .ok (.if_icmp .ge 7, 3) := by decide +kernel
theorem dX0_noticed_11 : decode cX0_noticed 11 = .ok (.iconst 0, 1) := by decide +kernel
theorem dX0_noticed_12 : decode cX0_noticed 12 = .ok (.goto 4, 3) := by decide +kernel
theorem dX0_noticed_15 : decode cX0_noticed 15 = .ok (.iload_n 1, 1) := by decide +kernel
theorem dX0_noticed_16 : decode cX0_noticed 16 = .ok (.ireturn, 1) := by decide +kernel
def f_X0_noticed (v1 : Int32) (D : aD) : Option (Int32 × aD) :=
  if gI D 2 9 ≤ v1 then (some (v1, D)) else (some (0, D))
set_option maxRecDepth 100000 in
set_option maxHeartbeats 800000 in
theorem c_X0_noticed {G : aG} (hG : gOK G) {shp : List aSh} (hS : aShp shp) {fr : Option Nat} {v1 : Int32} {D : aD} {K : Int32 → aD → Prop} (h : Ok2 (f_X0_noticed v1 D) K) : AC G (aRm 1 0 0) M_X0_noticed [.ref 57, .int v1] fr shp D (aQi shp K) := by
  replace h := Ok2.ok h
  unfold f_X0_noticed at h
  refine AC.of (al := [some (.ref 57), some (.int v1)]) (r := 0) (by decide) (Nat.le_of_ble_eq_true rfl) rfl ?_
  refine aw_iload_n (n := 1) (i := 1) dX0_noticed_0 rfl rfl rfl ?_
  refine aw_aload_n (n := 2) (i := 0) dX0_noticed_1 rfl rfl rfl ?_
  refine aw_getR (n := 5) (j := 0) (r := 2) hG.1 fl_RX0_18 (sF_57 hS) rfl dX0_noticed_2 rfl ?_
  refine aw_getI (n := 8) (j := 9) hG.1 fl_RX0_80 (sF_2 hS) rfl dX0_noticed_5 rfl ?_
  refine aw_icmp_ge (n := 11) (tgt := 15) dX0_noticed_8 rfl (by decide) (fun c => ?_) (fun c => ?_)
  · replace h := Ok.ift h c
    refine aw_iload_n (n := 16) (i := 1) dX0_noticed_15 rfl rfl rfl ?_
    exact aw_iret rfl (by decide) (by decide) dX0_noticed_16 ⟨_, rfl, rfl, (Ok.dn h :)⟩
  · replace h := Ok.iff h c
    refine aw_iconst (n := 12) (v := 0) dX0_noticed_11 rfl (by decide) ?_
    refine aw_goto (tgt := 16) dX0_noticed_12 (by decide) ?_
    exact aw_iret rfl (by decide) (by decide) dX0_noticed_16 ⟨_, rfl, rfl, (Ok.dn h :)⟩
theorem dX0_likedShare_0 : decode cX0_likedShare 0 = .ok (.aload_n 0, 1) := by decide +kernel
theorem dX0_likedShare_1 : decode cX0_likedShare 1 = .ok (.getfield 15, 3) := by decide +kernel
theorem dX0_likedShare_4 : decode cX0_likedShare 4 = .ok (.iload_n 1, 1) := by decide +kernel
theorem dX0_likedShare_5 : decode cX0_likedShare 5 = .ok (.bipush 6, 2) := by decide +kernel
theorem dX0_likedShare_7 : decode cX0_likedShare 7 = .ok (.imul, 1) := by decide +kernel
theorem dX0_likedShare_8 : decode cX0_likedShare 8 = .ok (.iload_n 2, 1) := by decide +kernel
theorem dX0_likedShare_9 : decode cX0_likedShare 9 = .ok (.iadd, 1) := by decide +kernel
theorem dX0_likedShare_10 : decode cX0_likedShare 10 = .ok (.iaload, 1) := by decide +kernel
theorem dX0_likedShare_11 : decode cX0_likedShare 11 = .ok (.istore 4, 2) := by decide +kernel
theorem dX0_likedShare_13 : decode cX0_likedShare 13 = .ok (.aload_n 0, 1) := by decide +kernel
theorem dX0_likedShare_14 : decode cX0_likedShare 14 = .ok (.getfield 9, 3) := by decide +kernel
theorem dX0_likedShare_17 : decode cX0_likedShare 17 = .ok (.iload_n 2, 1) := by decide +kernel
theorem dX0_likedShare_18 : decode cX0_likedShare 18 = .ok (.iaload, 1) := by decide +kernel
theorem dX0_likedShare_19 : decode cX0_likedShare 19 = .ok (.istore 5, 2) := by decide +kernel
theorem dX0_likedShare_21 : decode cX0_likedShare 21 = .ok (.iload 4, 2) := by decide +kernel
theorem dX0_likedShare_23 : decode cX0_likedShare 23 = .ok (.ifCond .eq 8, 3) := by decide +kernel
theorem dX0_likedShare_26 : decode cX0_likedShare 26 = .ok (.iload 5, 2) := by decide +kernel
theorem dX0_likedShare_28 : decode cX0_likedShare 28 = .ok (.ifCond .gt 7, 3) := by decide +kernel
theorem dX0_likedShare_31 : decode cX0_likedShare 31 = .ok (.iconst 0, 1) := by decide +kernel
theorem dX0_likedShare_32 : decode cX0_likedShare 32 = .ok (.goto 23, 3) := by decide +kernel
theorem dX0_likedShare_35 : decode cX0_likedShare 35 = .ok (.aload_n 0, 1) := by decide +kernel
theorem dX0_likedShare_36 : decode cX0_likedShare 36 = .ok (.getfield 18, 3) := by decide +kernel
theorem dX0_likedShare_39 : decode cX0_likedShare 39 = .ok (.getfield 94, 3) := by decide +kernel
theorem dX0_likedShare_42 : decode cX0_likedShare 42 = .ok (.iload_n 2, 1) := by decide +kernel
theorem dX0_likedShare_43 : decode cX0_likedShare 43 = .ok (.aaload, 1) := by decide +kernel
theorem dX0_likedShare_44 : decode cX0_likedShare 44 = .ok (.getfield 98, 3) := by decide +kernel
theorem dX0_likedShare_47 : decode cX0_likedShare 47 = .ok (.iload_n 3, 1) := by decide +kernel
theorem dX0_likedShare_48 : decode cX0_likedShare 48 = .ok (.iload 4, 2) := by decide +kernel
theorem dX0_likedShare_50 : decode cX0_likedShare 50 = .ok (.imul, 1) := by decide +kernel
theorem dX0_likedShare_51 : decode cX0_likedShare 51 = .ok (.iload 5, 2) := by decide +kernel
theorem dX0_likedShare_53 : decode cX0_likedShare 53 = .ok (.idiv, 1) := by decide +kernel
theorem dX0_likedShare_54 : decode cX0_likedShare 54 = .ok (.imul, 1) := by decide +kernel
theorem dX0_likedShare_55 : decode cX0_likedShare 55 = .ok (.ireturn, 1) := by decide +kernel
def f_X0_likedShare (v1 : Int32) (v2 : Int32) (v3 : Int32) (D : aD) : Option (Int32 × aD) :=
  aGd (aIn ((v1 * 6) + v2) 30) (aLet (gI D 59 ((v1 * 6) + v2).toNatClampNeg) (fun v4_2 => aGd (aIn v2 6) (aLet (gI D 58 v2.toNatClampNeg) (fun v5_4 => if v4_2 = 0 then (some (0, D)) else (if 0 < v5_4 then (aGd (aIn v2 6) (aGd (aNz v5_4) (some ((gI D (15 + v2.toNatClampNeg) 5) * ((v3 * v4_2) / v5_4), D)))) else (some (0, D)))))))
set_option maxRecDepth 100000 in
set_option maxHeartbeats 800000 in
theorem c_X0_likedShare {G : aG} (hG : gOK G) {shp : List aSh} (hS : aShp shp) {fr : Option Nat} {v1 : Int32} {v2 : Int32} {v3 : Int32} {D : aD} {K : Int32 → aD → Prop} (h : Ok2 (f_X0_likedShare v1 v2 v3 D) K) : AC G (aRm 1 0 0) M_X0_likedShare [.ref 57, .int v1, .int v2, .int v3] fr shp D (aQi shp K) := by
  replace h := Ok2.ok h
  unfold f_X0_likedShare at h
  refine AC.of (al := [some (.ref 57), some (.int v1), some (.int v2), some (.int v3), none, none]) (r := 2) (by decide) (Nat.le_of_ble_eq_true rfl) rfl ?_
  refine aw_aload_n (n := 1) (i := 0) dX0_likedShare_0 rfl rfl rfl ?_
  refine aw_getR (n := 4) (j := 3) (r := 59) hG.1 fl_RX0_15 (sF_57 hS) rfl dX0_likedShare_1 rfl ?_
  refine aw_iload_n (n := 5) (i := 1) dX0_likedShare_4 rfl rfl rfl ?_
  refine aw_bipush (n := 7) (v := 6) dX0_likedShare_5 rfl (by decide) ?_
  refine aw_imul (n := 8) dX0_likedShare_7 rfl ?_
  refine aw_iload_n (n := 9) (i := 2) dX0_likedShare_8 rfl rfl rfl ?_
  refine aw_iadd (n := 10) dX0_likedShare_9 rfl ?_
  obtain ⟨g_1, h⟩ := Ok.gd h
  refine aw_iaload (n := 11) hG.1 (sF_59 hS) (aIn_in g_1) dX0_likedShare_10 rfl ?_
  obtain ⟨v4_2, e_v4_2, h⟩ := Ok.let_ h
  refine aw_istore (n := 13) (i := 4) (al' := [some (.ref 57), some (.int v1), some (.int v2), some (.int v3), some (.int v4_2), none]) dX0_likedShare_11 rfl e_v4_2 (by decide) rfl ?_
  refine aw_aload_n (n := 14) (i := 0) dX0_likedShare_13 rfl rfl rfl ?_
  refine aw_getR (n := 17) (j := 2) (r := 58) hG.1 fl_RX0_9 (sF_57 hS) rfl dX0_likedShare_14 rfl ?_
  refine aw_iload_n (n := 18) (i := 2) dX0_likedShare_17 rfl rfl rfl ?_
  obtain ⟨g_3, h⟩ := Ok.gd h
  refine aw_iaload (n := 19) hG.1 (sF_58 hS) (aIn_in g_3) dX0_likedShare_18 rfl ?_
  obtain ⟨v5_4, e_v5_4, h⟩ := Ok.let_ h
  refine aw_istore (n := 21) (i := 5) (al' := [some (.ref 57), some (.int v1), some (.int v2), some (.int v3), some (.int v4_2), some (.int v5_4)]) dX0_likedShare_19 rfl e_v5_4 (by decide) rfl ?_
  refine aw_iload (n := 23) (i := 4) dX0_likedShare_21 rfl rfl ?_
  refine aw_if_eq (n := 26) (tgt := 31) dX0_likedShare_23 rfl (by decide) (fun c => ?_) (fun c => ?_)
  · replace h := Ok.ift h c
    refine aw_iconst (n := 32) (v := 0) dX0_likedShare_31 rfl (by decide) ?_
    refine aw_goto (tgt := 55) dX0_likedShare_32 (by decide) ?_
    exact aw_iret rfl (by decide) (by decide) dX0_likedShare_55 ⟨_, rfl, rfl, (Ok.dn h :)⟩
  · replace h := Ok.iff h c
    refine aw_iload (n := 28) (i := 5) dX0_likedShare_26 rfl rfl ?_
    refine aw_if_gt (n := 31) (tgt := 35) dX0_likedShare_28 rfl (by decide) (fun c => ?_) (fun c => ?_)
    · replace h := Ok.ift h c
      refine aw_aload_n (n := 36) (i := 0) dX0_likedShare_35 rfl rfl rfl ?_
      refine aw_getR (n := 39) (j := 0) (r := 2) hG.1 fl_RX0_18 (sF_57 hS) rfl dX0_likedShare_36 rfl ?_
      refine aw_getR (n := 42) (j := 1) (r := 7) hG.1 fl_RX0_94 (sF_2 hS) rfl dX0_likedShare_39 rfl ?_
      refine aw_iload_n (n := 43) (i := 2) dX0_likedShare_42 rfl rfl rfl ?_
      obtain ⟨g_5, h⟩ := Ok.gd h
      refine aw_aaload (n := 44) (t := 4) (r := (15 + v2.toNatClampNeg)) hG.1 (by decide) rfl (sF_7 hS) (aIn_in g_5) (rs_7 (aIn_lt g_5)) dX0_likedShare_43 rfl ?_
      refine aw_getI (n := 47) (j := 5) hG.1 fl_RX0_98 (so_15 hS (aIn_lt g_5)) rfl dX0_likedShare_44 rfl ?_
      refine aw_iload_n (n := 48) (i := 3) dX0_likedShare_47 rfl rfl rfl ?_
      refine aw_iload (n := 50) (i := 4) dX0_likedShare_48 rfl rfl ?_
      refine aw_imul (n := 51) dX0_likedShare_50 rfl ?_
      refine aw_iload (n := 53) (i := 5) dX0_likedShare_51 rfl rfl ?_
      obtain ⟨g_6, h⟩ := Ok.gd h
      refine aw_idiv (n := 54) dX0_likedShare_53 rfl (aNz_ne g_6) ?_
      refine aw_imul (n := 55) dX0_likedShare_54 rfl ?_
      exact aw_iret rfl (by decide) (by decide) dX0_likedShare_55 ⟨_, rfl, rfl, (Ok.dn h :)⟩
    · replace h := Ok.iff h c
      refine aw_iconst (n := 32) (v := 0) dX0_likedShare_31 rfl (by decide) ?_
      refine aw_goto (tgt := 55) dX0_likedShare_32 (by decide) ?_
      exact aw_iret rfl (by decide) (by decide) dX0_likedShare_55 ⟨_, rfl, rfl, (Ok.dn h :)⟩
theorem dX0_markOf_0 : decode cX0_markOf 0 = .ok (.iconst 0, 1) := by decide +kernel
theorem dX0_markOf_1 : decode cX0_markOf 1 = .ok (.istore_n 2, 1) := by decide +kernel
theorem dX0_markOf_2 : decode cX0_markOf 2 = .ok (.iconst 0, 1) := by decide +kernel
theorem dX0_markOf_3 : decode cX0_markOf 3 = .ok (.istore_n 3, 1) := by decide +kernel
theorem dX0_markOf_4 : decode cX0_markOf 4 = .ok (.iload_n 3, 1) := by decide +kernel
theorem dX0_markOf_5 : decode cX0_markOf 5 = .ok (.aload_n 0, 1) := by decide +kernel
theorem dX0_markOf_6 : decode cX0_markOf 6 = .ok (.getfield 18, 3) := by decide +kernel
theorem dX0_markOf_9 : decode cX0_markOf 9 = .ok (.getfield 74, 3) := by decide +kernel
theorem dX0_markOf_12 : decode cX0_markOf 12 = .ok (.if_icmp .ge 27, 3) := by decide +kernel
theorem dX0_markOf_15 : decode cX0_markOf 15 = .ok (.iload_n 2, 1) := by decide +kernel
theorem dX0_markOf_16 : decode cX0_markOf 16 = .ok (.aload_n 0, 1) := by decide +kernel
theorem dX0_markOf_17 : decode cX0_markOf 17 = .ok (.iload_n 1, 1) := by decide +kernel
theorem dX0_markOf_18 : decode cX0_markOf 18 = .ok (.iload_n 3, 1) := by decide +kernel
theorem dX0_markOf_19 : decode cX0_markOf 19 = .ok (.aload_n 0, 1) := by decide +kernel
theorem dX0_markOf_20 : decode cX0_markOf 20 = .ok (.aload_n 0, 1) := by decide +kernel
theorem dX0_markOf_21 : decode cX0_markOf 21 = .ok (.iload_n 3, 1) := by decide +kernel
theorem dX0_markOf_22 : decode cX0_markOf 22 = .ok (.invokevirtual 83, 3) := by decide +kernel
theorem dX0_markOf_25 : decode cX0_markOf 25 = .ok (.invokevirtual 87, 3) := by decide +kernel
theorem dX0_markOf_28 : decode cX0_markOf 28 = .ok (.invokevirtual 90, 3) := by decide +kernel
theorem dX0_markOf_31 : decode cX0_markOf 31 = .ok (.iadd, 1) := by decide +kernel
theorem dX0_markOf_32 : decode cX0_markOf 32 = .ok (.istore_n 2, 1) := by decide +kernel
theorem dX0_markOf_33 : decode cX0_markOf 33 = .ok (.iinc 3 1, 3) := by decide +kernel
theorem dX0_markOf_36 : decode cX0_markOf 36 = .ok (.goto (-32), 3) := by decide +kernel
theorem dX0_markOf_39 : decode cX0_markOf 39 = .ok (.iload_n 2, 1) := by decide +kernel
theorem dX0_markOf_40 : decode cX0_markOf 40 = .ok (.ireturn, 1) := by decide +kernel
def J_X0_markOf_39 (v2 : Int32) (D : aD) : Option (Int32 × aD) :=
  some (v2, D)
def B_X0_markOf_4 (v1 : Int32) (v2 : Int32) (v3 : Int32) (D : aD) : Option ((Int32 × Int32 × aD) ⊕ ((Int32 × aD))) :=
  if gI D 2 2 ≤ v3 then (some (.inr (v2, D))) else (aBi (f_X0_masked v3 D) (fun y_1 D_2 => aBi (f_X0_noticed y_1 D_2) (fun y_3 D_4 => aBi (f_X0_likedShare v1 v3 y_3 D_4) (fun y_5 D_6 => aLet (v2 + y_5) (fun v2_7 => aLet (v3 + 1) (fun v3_8 => some (.inl (v2_7, v3_8, D_6))))))))
def J_X0_markOf_4 (v1 : Int32) (v2 : Int32) (v3 : Int32) (D : aD) : Option (Int32 × aD) :=
  (aLp (fun s => B_X0_markOf_4 v1 s.1 s.2.1 s.2.2) (v2, v3, D)).bind (fun r => J_X0_markOf_39 (r.1) r.2)
def f_X0_markOf (v1 : Int32) (D : aD) : Option (Int32 × aD) :=
  J_X0_markOf_4 v1 0 0 D
set_option maxRecDepth 100000 in
set_option maxHeartbeats 800000 in
theorem c_X0_markOf {G : aG} (hG : gOK G) {shp : List aSh} (hS : aShp shp) {fr : Option Nat} {v1 : Int32} {D : aD} {K : Int32 → aD → Prop} (h : Ok2 (f_X0_markOf v1 D) K) : AC G (aRm 2 0 0) M_X0_markOf [.ref 57, .int v1] fr shp D (aQi shp K) := by
  replace h := Ok2.ok h
  unfold f_X0_markOf at h
  refine AC.of (al := [some (.ref 57), some (.int v1), none, none]) (r := 2) (by decide) (Nat.le_of_ble_eq_true rfl) rfl ?_
  have hJ_39 : ∀ (v2 : Int32) (D : aD), Ok (J_X0_markOf_39 v2 D) (fun r => K r.1 r.2) → AW G (aRm 2 0 0) M_X0_markOf fr 0 0 39 [none, none, some (.int v2), none] [] shp D (aQi shp K) := by
    intro v2 D h
    unfold J_X0_markOf_39 at h
    refine aw_iload_n (n := 40) (i := 2) dX0_markOf_39 rfl rfl rfl ?_
    exact aw_iret rfl (by decide) (by decide) dX0_markOf_40 ⟨_, rfl, rfl, (Ok.dn h :)⟩
  have hJ_4 : ∀ (v1 : Int32) (v2 : Int32) (v3 : Int32) (D : aD), Ok (J_X0_markOf_4 v1 v2 v3 D) (fun r => K r.1 r.2) → AW G (aRm 2 0 0) M_X0_markOf fr 0 0 4 [some (.ref 57), some (.int v1), some (.int v2), some (.int v3)] [] shp D (aQi shp K) := by
    intro v1 v2 v3 D h
    unfold J_X0_markOf_4 at h
    refine Ok.lp (P := fun s => AW G (aRm 2 0 0) M_X0_markOf fr 0 0 4 [some (.ref 57), some (.int v1), some (.int (s.1)), some (.int (s.2.1))] [] shp s.2.2 (aQi shp K)) (fun s Kb4 hL4 hR4 h => ?_) (v2, v3, D) (Ok.bind h)
    obtain ⟨v2, v3, D⟩ := s
    replace h : Ok (B_X0_markOf_4 v1 v2 v3 D) Kb4 := h
    unfold B_X0_markOf_4 at h
    refine aw_iload_n (n := 5) (i := 3) dX0_markOf_4 rfl rfl rfl ?_
    refine aw_aload_n (n := 6) (i := 0) dX0_markOf_5 rfl rfl rfl ?_
    refine aw_getR (n := 9) (j := 0) (r := 2) hG.1 fl_RX0_18 (sF_57 hS) rfl dX0_markOf_6 rfl ?_
    refine aw_getI (n := 12) (j := 2) hG.1 fl_RX0_74 (sF_2 hS) rfl dX0_markOf_9 rfl ?_
    refine aw_icmp_ge (n := 15) (tgt := 39) dX0_markOf_12 rfl (by decide) (fun c => ?_) (fun c => ?_)
    · replace h := Ok.ift h c
      exact aw_le' (hJ_39 v2 D (hR4 (v2, D) (Ok.dn h :))) ⟨rfl, trivial⟩
    · replace h := Ok.iff h c
      refine aw_iload_n (n := 16) (i := 2) dX0_markOf_15 rfl rfl rfl ?_
      refine aw_aload_n (n := 17) (i := 0) dX0_markOf_16 rfl rfl rfl ?_
      refine aw_iload_n (n := 18) (i := 1) dX0_markOf_17 rfl rfl rfl ?_
      refine aw_iload_n (n := 19) (i := 3) dX0_markOf_18 rfl rfl rfl ?_
      refine aw_aload_n (n := 20) (i := 0) dX0_markOf_19 rfl rfl rfl ?_
      refine aw_aload_n (n := 21) (i := 0) dX0_markOf_20 rfl rfl rfl ?_
      refine aw_iload_n (n := 22) (i := 3) dX0_markOf_21 rfl rfl rfl ?_
      refine aw_cVi (M := M_X0_markOf) (n := 25) (As := [.int v3]) (rest := [.ref 57, .int v3, .int v1, .ref 57, .int v2]) hG.1 lk_RX0_83 rfl rfl (sF_57 hS) (c_X0_masked hG hS (h := Ok.bi h)) (by decide) (Nat.le_of_ble_eq_true rfl) (by decide) (by decide) dX0_markOf_22 rfl (fun y_1 D_2 h => ?_)
      refine aw_cVi (M := M_X0_markOf) (n := 28) (As := [.int y_1]) (rest := [.int v3, .int v1, .ref 57, .int v2]) hG.1 lk_RX0_87 rfl rfl (sF_57 hS) (c_X0_noticed hG hS (h := Ok.bi h)) (by decide) (Nat.le_of_ble_eq_true rfl) (by decide) (by decide) dX0_markOf_25 rfl (fun y_3 D_4 h => ?_)
      refine aw_cVi (M := M_X0_markOf) (n := 31) (As := [.int v1, .int v3, .int y_3]) (rest := [.int v2]) hG.1 lk_RX0_90 rfl rfl (sF_57 hS) (c_X0_likedShare hG hS (h := Ok.bi h)) (by decide) (Nat.le_of_ble_eq_true rfl) (by decide) (by decide) dX0_markOf_28 rfl (fun y_5 D_6 h => ?_)
      refine aw_iadd (n := 32) dX0_markOf_31 rfl ?_
      obtain ⟨v2_7, e_v2_7, h⟩ := Ok.let_ h
      refine aw_istore_n (n := 33) (i := 2) (al' := [some (.ref 57), some (.int v1), some (.int v2_7), some (.int v3)]) dX0_markOf_32 rfl rfl e_v2_7 (by decide) rfl ?_
      obtain ⟨v3_8, e_v3_8, h⟩ := Ok.let_ h
      refine aw_iinc (n := 36) (al' := [some (.ref 57), some (.int v1), some (.int v2_7), some (.int v3_8)]) dX0_markOf_33 rfl rfl e_v3_8 (by decide) rfl ?_
      refine aw_goto (tgt := 4) dX0_markOf_36 (by decide) ?_
      exact aw_le' (hL4 (v2_7, v3_8, D_6) (Ok.dn h :)) ⟨rfl, ⟨rfl, ⟨rfl, ⟨rfl, trivial⟩⟩⟩⟩
  refine aw_iconst (n := 1) (v := 0) dX0_markOf_0 rfl (by decide) ?_
  refine aw_istore_n (n := 2) (i := 2) (al' := [some (.ref 57), some (.int v1), some (.int 0), none]) dX0_markOf_1 rfl rfl rfl (by decide) rfl ?_
  refine aw_iconst (n := 3) (v := 0) dX0_markOf_2 rfl (by decide) ?_
  refine aw_istore_n (n := 4) (i := 3) (al' := [some (.ref 57), some (.int v1), some (.int 0), some (.int 0)]) dX0_markOf_3 rfl rfl rfl (by decide) rfl ?_
  exact aw_le' (hJ_4 v1 0 0 D h) ⟨rfl, ⟨rfl, ⟨rfl, ⟨rfl, trivial⟩⟩⟩⟩
theorem dX0_addMarks_0 : decode cX0_addMarks 0 = .ok (.iconst 0, 1) := by decide +kernel
theorem dX0_addMarks_1 : decode cX0_addMarks 1 = .ok (.istore_n 2, 1) := by decide +kernel
theorem dX0_addMarks_2 : decode cX0_addMarks 2 = .ok (.iload_n 2, 1) := by decide +kernel
theorem dX0_addMarks_3 : decode cX0_addMarks 3 = .ok (.aload_n 0, 1) := by decide +kernel
theorem dX0_addMarks_4 : decode cX0_addMarks 4 = .ok (.getfield 18, 3) := by decide +kernel
theorem dX0_addMarks_7 : decode cX0_addMarks 7 = .ok (.getfield 74, 3) := by decide +kernel
theorem dX0_addMarks_10 : decode cX0_addMarks 10 = .ok (.if_icmp .ge 59, 3) := by decide +kernel
theorem dX0_addMarks_13 : decode cX0_addMarks 13 = .ok (.aload_n 0, 1) := by decide +kernel
theorem dX0_addMarks_14 : decode cX0_addMarks 14 = .ok (.aload_n 0, 1) := by decide +kernel
theorem dX0_addMarks_15 : decode cX0_addMarks 15 = .ok (.iload_n 2, 1) := by decide +kernel
theorem dX0_addMarks_16 : decode cX0_addMarks 16 = .ok (.invokevirtual 83, 3) := by decide +kernel
theorem dX0_addMarks_19 : decode cX0_addMarks 19 = .ok (.invokevirtual 87, 3) := by decide +kernel
theorem dX0_addMarks_22 : decode cX0_addMarks 22 = .ok (.istore_n 3, 1) := by decide +kernel
theorem dX0_addMarks_23 : decode cX0_addMarks 23 = .ok (.iconst 0, 1) := by decide +kernel
theorem dX0_addMarks_24 : decode cX0_addMarks 24 = .ok (.istore 4, 2) := by decide +kernel
theorem dX0_addMarks_26 : decode cX0_addMarks 26 = .ok (.iload_n 3, 1) := by decide +kernel
theorem dX0_addMarks_27 : decode cX0_addMarks 27 = .ok (.ifCond .le 36, 3) := by decide +kernel
theorem dX0_addMarks_30 : decode cX0_addMarks 30 = .ok (.iload 4, 2) := by decide +kernel
theorem dX0_addMarks_32 : decode cX0_addMarks 32 = .ok (.aload_n 0, 1) := by decide +kernel
theorem dX0_addMarks_33 : decode cX0_addMarks 33 = .ok (.getfield 18, 3) := by decide +kernel
theorem dX0_addMarks_36 : decode cX0_addMarks 36 = .ok (.getfield 103, 3) := by decide +kernel
theorem dX0_addMarks_39 : decode cX0_addMarks 39 = .ok (.if_icmp .ge 24, 3) := by decide +kernel
theorem dX0_addMarks_42 : decode cX0_addMarks 42 = .ok (.aload_n 1, 1) := by decide +kernel
theorem dX0_addMarks_43 : decode cX0_addMarks 43 = .ok (.iload 4, 2) := by decide +kernel
theorem dX0_addMarks_45 : decode cX0_addMarks 45 = .ok (.dup2, 1) := by decide +kernel
theorem dX0_addMarks_46 : decode cX0_addMarks 46 = .ok (.iaload, 1) := by decide +kernel
theorem dX0_addMarks_47 : decode cX0_addMarks 47 = .ok (.aload_n 0, 1) := by decide +kernel
theorem dX0_addMarks_48 : decode cX0_addMarks 48 = .ok (.iload 4, 2) := by decide +kernel
theorem dX0_addMarks_50 : decode cX0_addMarks 50 = .ok (.iload_n 2, 1) := by decide +kernel
theorem dX0_addMarks_51 : decode cX0_addMarks 51 = .ok (.iload_n 3, 1) := by decide +kernel
theorem dX0_addMarks_52 : decode cX0_addMarks 52 = .ok (.invokevirtual 90, 3) := by decide +kernel
theorem dX0_addMarks_55 : decode cX0_addMarks 55 = .ok (.iadd, 1) := by decide +kernel
theorem dX0_addMarks_56 : decode cX0_addMarks 56 = .ok (.iastore, 1) := by decide +kernel
theorem dX0_addMarks_57 : decode cX0_addMarks 57 = .ok (.iinc 4 1, 3) := by decide +kernel
theorem dX0_addMarks_60 : decode cX0_addMarks 60 = .ok (.goto (-34), 3) := by decide +kernel
theorem dX0_addMarks_63 : decode cX0_addMarks 63 = .ok (.iinc 2 1, 3) := by decide +kernel
theorem dX0_addMarks_66 : decode cX0_addMarks 66 = .ok (.goto (-64), 3) := by decide +kernel
theorem dX0_addMarks_69 : decode cX0_addMarks 69 = .ok (.return_, 1) := by decide +kernel
def J_X0_addMarks_69 (a1 : Nat) (na1 : Nat) (D : aD) : Option (aD) :=
  some D
def J_X0_addMarks_63 (a1 : Nat) (na1 : Nat) (v2 : Int32) (D : aD) : Option ((Int32 × aD) ⊕ ((aD))) :=
  aLet (v2 + 1) (fun v2_5 => some (.inl (v2_5, D)))
def B_X0_addMarks_26 (a1 : Nat) (na1 : Nat) (v2 : Int32) (v3 : Int32) (v4 : Int32) (D : aD) : Option ((Int32 × aD) ⊕ ((aD))) :=
  if v3 ≤ 0 then (some (.inr D)) else (if gI D 2 3 ≤ v4 then (some (.inr D)) else (aGd (aIn v4 na1) (aBi (f_X0_likedShare v4 v2 v3 D) (fun y_7 D_8 => aGd (aIn v4 na1) (aLet (pI D_8 a1 v4.toNatClampNeg ((gI D a1 v4.toNatClampNeg) + y_7)) (fun D_10 => aLet (v4 + 1) (fun v4_11 => some (.inl (v4_11, D_10)))))))))
def J_X0_addMarks_26 (a1 : Nat) (na1 : Nat) (v2 : Int32) (v3 : Int32) (v4 : Int32) (D : aD) : Option ((Int32 × aD) ⊕ ((aD))) :=
  (aLp (fun s => B_X0_addMarks_26 a1 na1 v2 v3 s.1 s.2) (v4, D)).bind (fun r => J_X0_addMarks_63 a1 na1 v2 r)
def B_X0_addMarks_2 (a1 : Nat) (na1 : Nat) (v2 : Int32) (D : aD) : Option ((Int32 × aD) ⊕ ((aD))) :=
  if gI D 2 2 ≤ v2 then (some (.inr D)) else (aBi (f_X0_masked v2 D) (fun y_1 D_2 => aBi (f_X0_noticed y_1 D_2) (fun y_3 D_4 => J_X0_addMarks_26 a1 na1 v2 y_3 0 D_4)))
def J_X0_addMarks_2 (a1 : Nat) (na1 : Nat) (v2 : Int32) (D : aD) : Option (aD) :=
  (aLp (fun s => B_X0_addMarks_2 a1 na1 s.1 s.2) (v2, D)).bind (fun r => J_X0_addMarks_69 a1 na1 r)
def f_X0_addMarks (a1 : Nat) (na1 : Nat) (D : aD) : Option (aD) :=
  J_X0_addMarks_2 a1 na1 0 D
set_option maxRecDepth 100000 in
set_option maxHeartbeats 800000 in
theorem c_X0_addMarks {G : aG} (hG : gOK G) {shp : List aSh} (hS : aShp shp) {fr : Option Nat} {a1 : Nat} {na1 : Nat} {D : aD} {K : aD → Prop} (h : Ok (f_X0_addMarks a1 na1 D) K) (ha1 : shp[a1]? = some (.inl (1, na1, []))) : AC G (aRm 2 0 0) M_X0_addMarks [.ref 57, .ref a1] fr shp D (aQv shp K) := by
  unfold f_X0_addMarks at h
  refine AC.of (al := [some (.ref 57), some (.ref a1), none, none, none]) (r := 3) (by decide) (Nat.le_of_ble_eq_true rfl) rfl ?_
  have hJ_69 : ∀ (D : aD), Ok (J_X0_addMarks_69 a1 na1 D) K → AW G (aRm 2 0 0) M_X0_addMarks fr 0 0 69 [none, none, none, none, none] [] shp D (aQv shp K) := by
    intro D h
    unfold J_X0_addMarks_69 at h
    exact aw_vret rfl (by decide) (by decide) dX0_addMarks_69 ⟨rfl, rfl, (Ok.dn h :)⟩
  have hJ_2 : ∀ (v2 : Int32) (D : aD), Ok (J_X0_addMarks_2 a1 na1 v2 D) K → AW G (aRm 2 0 0) M_X0_addMarks fr 0 0 2 [some (.ref 57), some (.ref a1), some (.int v2), none, none] [] shp D (aQv shp K) := by
    intro v2 D h
    unfold J_X0_addMarks_2 at h
    refine Ok.lp (P := fun s => AW G (aRm 2 0 0) M_X0_addMarks fr 0 0 2 [some (.ref 57), some (.ref a1), some (.int (s.1)), none, none] [] shp s.2 (aQv shp K)) (fun s Kb2 hL2 hR2 h => ?_) (v2, D) (Ok.bind h)
    obtain ⟨v2, D⟩ := s
    replace h : Ok (B_X0_addMarks_2 a1 na1 v2 D) Kb2 := h
    unfold B_X0_addMarks_2 at h
    have hJ_63 : ∀ (v2 : Int32) (D : aD), Ok (J_X0_addMarks_63 a1 na1 v2 D) Kb2 → AW G (aRm 2 0 0) M_X0_addMarks fr 0 0 63 [some (.ref 57), some (.ref a1), some (.int v2), none, none] [] shp D (aQv shp K) := by
      intro v2 D h
      unfold J_X0_addMarks_63 at h
      obtain ⟨v2_5, e_v2_5, h⟩ := Ok.let_ h
      refine aw_iinc (n := 66) (al' := [some (.ref 57), some (.ref a1), some (.int v2_5), none, none]) dX0_addMarks_63 rfl rfl e_v2_5 (by decide) rfl ?_
      refine aw_goto (tgt := 2) dX0_addMarks_66 (by decide) ?_
      exact aw_le' (hL2 (v2_5, D) (Ok.dn h :)) ⟨rfl, ⟨rfl, ⟨rfl, trivial⟩⟩⟩
    have hJ_26 : ∀ (v2 : Int32) (v3 : Int32) (v4 : Int32) (D : aD), Ok (J_X0_addMarks_26 a1 na1 v2 v3 v4 D) Kb2 → AW G (aRm 2 0 0) M_X0_addMarks fr 0 0 26 [some (.ref 57), some (.ref a1), some (.int v2), some (.int v3), some (.int v4)] [] shp D (aQv shp K) := by
      intro v2 v3 v4 D h
      unfold J_X0_addMarks_26 at h
      refine Ok.lp (P := fun s => AW G (aRm 2 0 0) M_X0_addMarks fr 0 0 26 [some (.ref 57), some (.ref a1), some (.int v2), some (.int v3), some (.int (s.1))] [] shp s.2 (aQv shp K)) (fun s Kb26 hL26 hR26 h => ?_) (v4, D) (Ok.bind h)
      obtain ⟨v4, D⟩ := s
      replace h : Ok (B_X0_addMarks_26 a1 na1 v2 v3 v4 D) Kb26 := h
      unfold B_X0_addMarks_26 at h
      refine aw_iload_n (n := 27) (i := 3) dX0_addMarks_26 rfl rfl rfl ?_
      refine aw_if_le (n := 30) (tgt := 63) dX0_addMarks_27 rfl (by decide) (fun c => ?_) (fun c => ?_)
      · replace h := Ok.ift h c
        exact aw_le' (hJ_63 v2 D (hR26 D (Ok.dn h :))) ⟨rfl, ⟨rfl, ⟨rfl, trivial⟩⟩⟩
      · replace h := Ok.iff h c
        refine aw_iload (n := 32) (i := 4) dX0_addMarks_30 rfl rfl ?_
        refine aw_aload_n (n := 33) (i := 0) dX0_addMarks_32 rfl rfl rfl ?_
        refine aw_getR (n := 36) (j := 0) (r := 2) hG.1 fl_RX0_18 (sF_57 hS) rfl dX0_addMarks_33 rfl ?_
        refine aw_getI (n := 39) (j := 3) hG.1 fl_RX0_103 (sF_2 hS) rfl dX0_addMarks_36 rfl ?_
        refine aw_icmp_ge (n := 42) (tgt := 63) dX0_addMarks_39 rfl (by decide) (fun c => ?_) (fun c => ?_)
        · replace h := Ok.ift h c
          exact aw_le' (hJ_63 v2 D (hR26 D (Ok.dn h :))) ⟨rfl, ⟨rfl, ⟨rfl, trivial⟩⟩⟩
        · replace h := Ok.iff h c
          refine aw_aload_n (n := 43) (i := 1) dX0_addMarks_42 rfl rfl rfl ?_
          refine aw_iload (n := 45) (i := 4) dX0_addMarks_43 rfl rfl ?_
          refine aw_dup2 (n := 46) dX0_addMarks_45 rfl rfl rfl ?_
          obtain ⟨g_6, h⟩ := Ok.gd h
          refine aw_iaload (n := 47) hG.1 ha1 (aIn_in g_6) dX0_addMarks_46 rfl ?_
          refine aw_aload_n (n := 48) (i := 0) dX0_addMarks_47 rfl rfl rfl ?_
          refine aw_iload (n := 50) (i := 4) dX0_addMarks_48 rfl rfl ?_
          refine aw_iload_n (n := 51) (i := 2) dX0_addMarks_50 rfl rfl rfl ?_
          refine aw_iload_n (n := 52) (i := 3) dX0_addMarks_51 rfl rfl rfl ?_
          refine aw_cVi (M := M_X0_addMarks) (n := 55) (As := [.int v4, .int v2, .int v3]) (rest := [.int (gI D a1 v4.toNatClampNeg), .int v4, .ref a1]) hG.1 lk_RX0_90 rfl rfl (sF_57 hS) (c_X0_likedShare hG hS (h := Ok.bi h)) (by decide) (Nat.le_of_ble_eq_true rfl) (by decide) (by decide) dX0_addMarks_52 rfl (fun y_7 D_8 h => ?_)
          refine aw_iadd (n := 56) dX0_addMarks_55 rfl ?_
          obtain ⟨g_9, h⟩ := Ok.gd h
          obtain ⟨D_10, e_D_10, h⟩ := Ok.let_ h
          refine aw_iastore (n := 57) hG.1 ha1 (aIn_in g_9) e_D_10 dX0_addMarks_56 rfl ?_
          obtain ⟨v4_11, e_v4_11, h⟩ := Ok.let_ h
          refine aw_iinc (n := 60) (al' := [some (.ref 57), some (.ref a1), some (.int v2), some (.int v3), some (.int v4_11)]) dX0_addMarks_57 rfl rfl e_v4_11 (by decide) rfl ?_
          refine aw_goto (tgt := 26) dX0_addMarks_60 (by decide) ?_
          exact aw_le' (hL26 (v4_11, D_10) (Ok.dn h :)) ⟨rfl, ⟨rfl, ⟨rfl, ⟨rfl, ⟨rfl, trivial⟩⟩⟩⟩⟩
    refine aw_iload_n (n := 3) (i := 2) dX0_addMarks_2 rfl rfl rfl ?_
    refine aw_aload_n (n := 4) (i := 0) dX0_addMarks_3 rfl rfl rfl ?_
    refine aw_getR (n := 7) (j := 0) (r := 2) hG.1 fl_RX0_18 (sF_57 hS) rfl dX0_addMarks_4 rfl ?_
    refine aw_getI (n := 10) (j := 2) hG.1 fl_RX0_74 (sF_2 hS) rfl dX0_addMarks_7 rfl ?_
    refine aw_icmp_ge (n := 13) (tgt := 69) dX0_addMarks_10 rfl (by decide) (fun c => ?_) (fun c => ?_)
    · replace h := Ok.ift h c
      exact aw_le' (hJ_69 D (hR2 D (Ok.dn h :))) trivial
    · replace h := Ok.iff h c
      refine aw_aload_n (n := 14) (i := 0) dX0_addMarks_13 rfl rfl rfl ?_
      refine aw_aload_n (n := 15) (i := 0) dX0_addMarks_14 rfl rfl rfl ?_
      refine aw_iload_n (n := 16) (i := 2) dX0_addMarks_15 rfl rfl rfl ?_
      refine aw_cVi (M := M_X0_addMarks) (n := 19) (As := [.int v2]) (rest := [.ref 57]) hG.1 lk_RX0_83 rfl rfl (sF_57 hS) (c_X0_masked hG hS (h := Ok.bi h)) (by decide) (Nat.le_of_ble_eq_true rfl) (by decide) (by decide) dX0_addMarks_16 rfl (fun y_1 D_2 h => ?_)
      refine aw_cVi (M := M_X0_addMarks) (n := 22) (As := [.int y_1]) (rest := []) hG.1 lk_RX0_87 rfl rfl (sF_57 hS) (c_X0_noticed hG hS (h := Ok.bi h)) (by decide) (Nat.le_of_ble_eq_true rfl) (by decide) (by decide) dX0_addMarks_19 rfl (fun y_3 D_4 h => ?_)
      refine aw_istore_n (n := 23) (i := 3) (al' := [some (.ref 57), some (.ref a1), some (.int v2), some (.int y_3), none]) dX0_addMarks_22 rfl rfl rfl (by decide) rfl ?_
      refine aw_iconst (n := 24) (v := 0) dX0_addMarks_23 rfl (by decide) ?_
      refine aw_istore (n := 26) (i := 4) (al' := [some (.ref 57), some (.ref a1), some (.int v2), some (.int y_3), some (.int 0)]) dX0_addMarks_24 rfl rfl (by decide) rfl ?_
      exact aw_le' (hJ_26 v2 y_3 0 D_4 h) ⟨rfl, ⟨rfl, ⟨rfl, ⟨rfl, ⟨rfl, trivial⟩⟩⟩⟩⟩
  refine aw_iconst (n := 1) (v := 0) dX0_addMarks_0 rfl (by decide) ?_
  refine aw_istore_n (n := 2) (i := 2) (al' := [some (.ref 57), some (.ref a1), some (.int 0), none, none]) dX0_addMarks_1 rfl rfl rfl (by decide) rfl ?_
  exact aw_le' (hJ_2 0 D h) ⟨rfl, ⟨rfl, ⟨rfl, trivial⟩⟩⟩
theorem dX0_loadRaw_0 : decode cX0_loadRaw 0 = .ok (.aload_n 1, 1) := by decide +kernel
theorem dX0_loadRaw_1 : decode cX0_loadRaw 1 = .ok (.iload_n 2, 1) := by decide +kernel
theorem dX0_loadRaw_2 : decode cX0_loadRaw 2 = .ok (.bipush 6, 2) := by decide +kernel
theorem dX0_loadRaw_4 : decode cX0_loadRaw 4 = .ok (.imul, 1) := by decide +kernel
theorem dX0_loadRaw_5 : decode cX0_loadRaw 5 = .ok (.aload_n 0, 1) := by decide +kernel
theorem dX0_loadRaw_6 : decode cX0_loadRaw 6 = .ok (.getfield 9, 3) := by decide +kernel
theorem dX0_loadRaw_9 : decode cX0_loadRaw 9 = .ok (.iconst 0, 1) := by decide +kernel
theorem dX0_loadRaw_10 : decode cX0_loadRaw 10 = .ok (.bipush 6, 2) := by decide +kernel
theorem dX0_loadRaw_12 : decode cX0_loadRaw 12 = .ok (.invokestatic 106, 3) := by decide +kernel
theorem dX0_loadRaw_15 : decode cX0_loadRaw 15 = .ok (.return_, 1) := by decide +kernel
def f_X0_loadRaw (a1 : Nat) (na1 : Nat) (v2 : Int32) (D : aD) : Option (aD) :=
  aGd (aCg (v2 * 6) 0 6 na1 6) (aLet (aCp D a1 58 (v2 * 6) 0 6) (fun D_2 => some D_2))
set_option maxRecDepth 100000 in
set_option maxHeartbeats 800000 in
theorem c_X0_loadRaw {G : aG} (hG : gOK G) {shp : List aSh} (hS : aShp shp) {fr : Option Nat} {a1 : Nat} {na1 : Nat} {v2 : Int32} {D : aD} {K : aD → Prop} (h : Ok (f_X0_loadRaw a1 na1 v2 D) K) (ha1 : shp[a1]? = some (.inl (1, na1, []))) : AC G (aRm 1 0 0) M_X0_loadRaw [.ref 57, .ref a1, .int v2] fr shp D (aQv shp K) := by
  unfold f_X0_loadRaw at h
  refine AC.of (al := [some (.ref 57), some (.ref a1), some (.int v2)]) (r := 0) (by decide) (Nat.le_of_ble_eq_true rfl) rfl ?_
  refine aw_aload_n (n := 1) (i := 1) dX0_loadRaw_0 rfl rfl rfl ?_
  refine aw_iload_n (n := 2) (i := 2) dX0_loadRaw_1 rfl rfl rfl ?_
  refine aw_bipush (n := 4) (v := 6) dX0_loadRaw_2 rfl (by decide) ?_
  refine aw_imul (n := 5) dX0_loadRaw_4 rfl ?_
  refine aw_aload_n (n := 6) (i := 0) dX0_loadRaw_5 rfl rfl rfl ?_
  refine aw_getR (n := 9) (j := 2) (r := 58) hG.1 fl_RX0_9 (sF_57 hS) rfl dX0_loadRaw_6 rfl ?_
  refine aw_iconst (n := 10) (v := 0) dX0_loadRaw_9 rfl (by decide) ?_
  refine aw_bipush (n := 12) (v := 6) dX0_loadRaw_10 rfl (by decide) ?_
  obtain ⟨g_1, h⟩ := Ok.gd h
  obtain ⟨D_2, e_D_2, h⟩ := Ok.let_ h
  refine aw_copy (M := M_X0_loadRaw) (n := 15) hG.1 la_RX0_106 ma_copy.1 ma_copy.2.1 ma_copy.2.2 ha1 (sF_58 hS) (aCg_ok g_1).1 (aCg_ok g_1).2.1 (aCg_ok g_1).2.2.1 (aCg_ok g_1).2.2.2.1 (aCg_ok g_1).2.2.2.2 e_D_2 (by decide) (Nat.le_of_ble_eq_true rfl) dX0_loadRaw_12 rfl ?_
  exact aw_vret rfl (by decide) (by decide) dX0_loadRaw_15 ⟨rfl, rfl, (Ok.dn h :)⟩
theorem dX0_saveRaw_0 : decode cX0_saveRaw 0 = .ok (.aload_n 0, 1) := by decide +kernel
theorem dX0_saveRaw_1 : decode cX0_saveRaw 1 = .ok (.getfield 9, 3) := by decide +kernel
theorem dX0_saveRaw_4 : decode cX0_saveRaw 4 = .ok (.iconst 0, 1) := by decide +kernel
theorem dX0_saveRaw_5 : decode cX0_saveRaw 5 = .ok (.aload_n 1, 1) := by decide +kernel
theorem dX0_saveRaw_6 : decode cX0_saveRaw 6 = .ok (.iload_n 2, 1) := by decide +kernel
theorem dX0_saveRaw_7 : decode cX0_saveRaw 7 = .ok (.bipush 6, 2) := by decide +kernel
theorem dX0_saveRaw_9 : decode cX0_saveRaw 9 = .ok (.imul, 1) := by decide +kernel
theorem dX0_saveRaw_10 : decode cX0_saveRaw 10 = .ok (.bipush 6, 2) := by decide +kernel
theorem dX0_saveRaw_12 : decode cX0_saveRaw 12 = .ok (.invokestatic 106, 3) := by decide +kernel
theorem dX0_saveRaw_15 : decode cX0_saveRaw 15 = .ok (.return_, 1) := by decide +kernel
def f_X0_saveRaw (a1 : Nat) (na1 : Nat) (v2 : Int32) (D : aD) : Option (aD) :=
  aGd (aCg 0 (v2 * 6) 6 6 na1) (aLet (aCp D 58 a1 0 (v2 * 6) 6) (fun D_2 => some D_2))
set_option maxRecDepth 100000 in
set_option maxHeartbeats 800000 in
theorem c_X0_saveRaw {G : aG} (hG : gOK G) {shp : List aSh} (hS : aShp shp) {fr : Option Nat} {a1 : Nat} {na1 : Nat} {v2 : Int32} {D : aD} {K : aD → Prop} (h : Ok (f_X0_saveRaw a1 na1 v2 D) K) (ha1 : shp[a1]? = some (.inl (1, na1, []))) : AC G (aRm 1 0 0) M_X0_saveRaw [.ref 57, .ref a1, .int v2] fr shp D (aQv shp K) := by
  unfold f_X0_saveRaw at h
  refine AC.of (al := [some (.ref 57), some (.ref a1), some (.int v2)]) (r := 0) (by decide) (Nat.le_of_ble_eq_true rfl) rfl ?_
  refine aw_aload_n (n := 1) (i := 0) dX0_saveRaw_0 rfl rfl rfl ?_
  refine aw_getR (n := 4) (j := 2) (r := 58) hG.1 fl_RX0_9 (sF_57 hS) rfl dX0_saveRaw_1 rfl ?_
  refine aw_iconst (n := 5) (v := 0) dX0_saveRaw_4 rfl (by decide) ?_
  refine aw_aload_n (n := 6) (i := 1) dX0_saveRaw_5 rfl rfl rfl ?_
  refine aw_iload_n (n := 7) (i := 2) dX0_saveRaw_6 rfl rfl rfl ?_
  refine aw_bipush (n := 9) (v := 6) dX0_saveRaw_7 rfl (by decide) ?_
  refine aw_imul (n := 10) dX0_saveRaw_9 rfl ?_
  refine aw_bipush (n := 12) (v := 6) dX0_saveRaw_10 rfl (by decide) ?_
  obtain ⟨g_1, h⟩ := Ok.gd h
  obtain ⟨D_2, e_D_2, h⟩ := Ok.let_ h
  refine aw_copy (M := M_X0_saveRaw) (n := 15) hG.1 la_RX0_106 ma_copy.1 ma_copy.2.1 ma_copy.2.2 (sF_58 hS) ha1 (aCg_ok g_1).1 (aCg_ok g_1).2.1 (aCg_ok g_1).2.2.1 (aCg_ok g_1).2.2.2.1 (aCg_ok g_1).2.2.2.2 e_D_2 (by decide) (Nat.le_of_ble_eq_true rfl) dX0_saveRaw_12 rfl ?_
  exact aw_vret rfl (by decide) (by decide) dX0_saveRaw_15 ⟨rfl, rfl, (Ok.dn h :)⟩
