theorem dX1_copyPlants_0 : decode cX1_copyPlants 0 = .ok (.aload_n 0, 1) := by decide +kernel
theorem dX1_copyPlants_1 : decode cX1_copyPlants 1 = .ok (.aload_n 0, 1) := by decide +kernel
theorem dX1_copyPlants_2 : decode cX1_copyPlants 2 = .ok (.getfield 33, 3) := by decide +kernel
theorem dX1_copyPlants_5 : decode cX1_copyPlants 5 = .ok (.getfield 65, 3) := by decide +kernel
theorem dX1_copyPlants_8 : decode cX1_copyPlants 8 = .ok (.putfield 48, 3) := by decide +kernel
theorem dX1_copyPlants_11 : decode cX1_copyPlants 11 = .ok (.aload_n 0, 1) := by decide +kernel
theorem dX1_copyPlants_12 : decode cX1_copyPlants 12 = .ok (.getfield 33, 3) := by decide +kernel
theorem dX1_copyPlants_15 : decode cX1_copyPlants 15 = .ok (.getfield 68, 3) := by decide +kernel
theorem dX1_copyPlants_18 : decode cX1_copyPlants 18 = .ok (.iconst 0, 1) := by decide +kernel
theorem dX1_copyPlants_19 : decode cX1_copyPlants 19 = .ok (.aload_n 0, 1) := by decide +kernel
theorem dX1_copyPlants_20 : decode cX1_copyPlants 20 = .ok (.getfield 9, 3) := by decide +kernel
theorem dX1_copyPlants_23 : decode cX1_copyPlants 23 = .ok (.iconst 0, 1) := by decide +kernel
theorem dX1_copyPlants_24 : decode cX1_copyPlants 24 = .ok (.bipush 12, 2) := by decide +kernel
theorem dX1_copyPlants_26 : decode cX1_copyPlants 26 = .ok (.invokestatic 71, 3) := by decide +kernel
theorem dX1_copyPlants_29 : decode cX1_copyPlants 29 = .ok (.aload_n 0, 1) := by decide +kernel
theorem dX1_copyPlants_30 : decode cX1_copyPlants 30 = .ok (.getfield 33, 3) := by decide +kernel
theorem dX1_copyPlants_33 : decode cX1_copyPlants 33 = .ok (.getfield 77, 3) := by decide +kernel
theorem dX1_copyPlants_36 : decode cX1_copyPlants 36 = .ok (.iconst 0, 1) := by decide +kernel
theorem dX1_copyPlants_37 : decode cX1_copyPlants 37 = .ok (.aload_n 0, 1) := by decide +kernel
theorem dX1_copyPlants_38 : decode cX1_copyPlants 38 = .ok (.getfield 15, 3) := by decide +kernel
theorem dX1_copyPlants_41 : decode cX1_copyPlants 41 = .ok (.iconst 0, 1) := by decide +kernel
theorem dX1_copyPlants_42 : decode cX1_copyPlants 42 = .ok (.bipush 12, 2) := by decide +kernel
theorem dX1_copyPlants_44 : decode cX1_copyPlants 44 = .ok (.invokestatic 71, 3) := by decide +kernel
theorem dX1_copyPlants_47 : decode cX1_copyPlants 47 = .ok (.aload_n 0, 1) := by decide +kernel
theorem dX1_copyPlants_48 : decode cX1_copyPlants 48 = .ok (.getfield 37, 3) := by decide +kernel
theorem dX1_copyPlants_51 : decode cX1_copyPlants 51 = .ok (.getfield 80, 3) := by decide +kernel
theorem dX1_copyPlants_54 : decode cX1_copyPlants 54 = .ok (.iconst 0, 1) := by decide +kernel
theorem dX1_copyPlants_55 : decode cX1_copyPlants 55 = .ok (.aload_n 0, 1) := by decide +kernel
theorem dX1_copyPlants_56 : decode cX1_copyPlants 56 = .ok (.getfield 18, 3) := by decide +kernel
theorem dX1_copyPlants_59 : decode cX1_copyPlants 59 = .ok (.iconst 0, 1) := by decide +kernel
theorem dX1_copyPlants_60 : decode cX1_copyPlants 60 = .ok (.bipush 12, 2) := by decide +kernel
theorem dX1_copyPlants_62 : decode cX1_copyPlants 62 = .ok (.invokestatic 71, 3) := by decide +kernel
theorem dX1_copyPlants_65 : decode cX1_copyPlants 65 = .ok (.return_, 1) := by decide +kernel
def f_X1_copyPlants (D : aD) : Option (aD) :=
  aLet (pI D 60 3 (gI D 2 4)) (fun D_1 => aGd (aCg 0 0 12 12 12) (aLet (aCp D_1 8 61 0 0 12) (fun D_3 => aGd (aCg 0 0 12 12 12) (aLet (aCp D_3 10 62 0 0 12) (fun D_5 => aGd (aCg 0 0 12 12 12) (aLet (aCp D_5 41 63 0 0 12) (fun D_7 => some D_7)))))))
set_option maxRecDepth 100000 in
set_option maxHeartbeats 800000 in
theorem c_X1_copyPlants {G : aG} (hG : gOK G) {shp : List aSh} (hS : aShp shp) {fr : Option Nat} {D : aD} {K : aD → Prop} (h : Ok (f_X1_copyPlants D) K) : AC G (aRm 1 0 0) M_X1_copyPlants [.ref 60] fr shp D (aQv shp K) := by
  unfold f_X1_copyPlants at h
  refine AC.of (al := [some (.ref 60)]) (r := 0) (by decide) (Nat.le_of_ble_eq_true rfl) rfl ?_
  refine aw_aload_n (n := 1) (i := 0) dX1_copyPlants_0 rfl rfl rfl ?_
  refine aw_aload_n (n := 2) (i := 0) dX1_copyPlants_1 rfl rfl rfl ?_
  refine aw_getR (n := 5) (j := 0) (r := 2) hG.1 fl_RX1_33 (sF_60 hS) rfl dX1_copyPlants_2 rfl ?_
  refine aw_getI (n := 8) (j := 4) hG.1 fl_RX1_65 (sF_2 hS) rfl dX1_copyPlants_5 rfl ?_
  obtain ⟨D_1, e_D_1, h⟩ := Ok.let_ h
  refine aw_putI (n := 11) (j := 3) hG.1 fl_RX1_48 (sF_60 hS) rfl e_D_1 dX1_copyPlants_8 rfl ?_
  refine aw_aload_n (n := 12) (i := 0) dX1_copyPlants_11 rfl rfl rfl ?_
  refine aw_getR (n := 15) (j := 0) (r := 2) hG.1 fl_RX1_33 (sF_60 hS) rfl dX1_copyPlants_12 rfl ?_
  refine aw_getR (n := 18) (j := 10) (r := 8) hG.1 fl_RX1_68 (sF_2 hS) rfl dX1_copyPlants_15 rfl ?_
  refine aw_iconst (n := 19) (v := 0) dX1_copyPlants_18 rfl (by decide) ?_
  refine aw_aload_n (n := 20) (i := 0) dX1_copyPlants_19 rfl rfl rfl ?_
  refine aw_getR (n := 23) (j := 4) (r := 61) hG.1 fl_RX1_9 (sF_60 hS) rfl dX1_copyPlants_20 rfl ?_
  refine aw_iconst (n := 24) (v := 0) dX1_copyPlants_23 rfl (by decide) ?_
  refine aw_bipush (n := 26) (v := 12) dX1_copyPlants_24 rfl (by decide) ?_
  obtain ⟨g_2, h⟩ := Ok.gd h
  obtain ⟨D_3, e_D_3, h⟩ := Ok.let_ h
  refine aw_copy (M := M_X1_copyPlants) (n := 29) hG.1 la_RX1_71 ma_copy.1 ma_copy.2.1 ma_copy.2.2 (sF_8 hS) (sF_61 hS) (aCg_ok g_2).1 (aCg_ok g_2).2.1 (aCg_ok g_2).2.2.1 (aCg_ok g_2).2.2.2.1 (aCg_ok g_2).2.2.2.2 e_D_3 (by decide) (Nat.le_of_ble_eq_true rfl) dX1_copyPlants_26 rfl ?_
  refine aw_aload_n (n := 30) (i := 0) dX1_copyPlants_29 rfl rfl rfl ?_
  refine aw_getR (n := 33) (j := 0) (r := 2) hG.1 fl_RX1_33 (sF_60 hS) rfl dX1_copyPlants_30 rfl ?_
  refine aw_getR (n := 36) (j := 12) (r := 10) hG.1 fl_RX1_77 (sF_2 hS) rfl dX1_copyPlants_33 rfl ?_
  refine aw_iconst (n := 37) (v := 0) dX1_copyPlants_36 rfl (by decide) ?_
  refine aw_aload_n (n := 38) (i := 0) dX1_copyPlants_37 rfl rfl rfl ?_
  refine aw_getR (n := 41) (j := 5) (r := 62) hG.1 fl_RX1_15 (sF_60 hS) rfl dX1_copyPlants_38 rfl ?_
  refine aw_iconst (n := 42) (v := 0) dX1_copyPlants_41 rfl (by decide) ?_
  refine aw_bipush (n := 44) (v := 12) dX1_copyPlants_42 rfl (by decide) ?_
  obtain ⟨g_4, h⟩ := Ok.gd h
  obtain ⟨D_5, e_D_5, h⟩ := Ok.let_ h
  refine aw_copy (M := M_X1_copyPlants) (n := 47) hG.1 la_RX1_71 ma_copy.1 ma_copy.2.1 ma_copy.2.2 (sF_10 hS) (sF_62 hS) (aCg_ok g_4).1 (aCg_ok g_4).2.1 (aCg_ok g_4).2.2.1 (aCg_ok g_4).2.2.2.1 (aCg_ok g_4).2.2.2.2 e_D_5 (by decide) (Nat.le_of_ble_eq_true rfl) dX1_copyPlants_44 rfl ?_
  refine aw_aload_n (n := 48) (i := 0) dX1_copyPlants_47 rfl rfl rfl ?_
  refine aw_getR (n := 51) (j := 1) (r := 40) hG.1 fl_RX1_37 (sF_60 hS) rfl dX1_copyPlants_48 rfl ?_
  refine aw_getR (n := 54) (j := 0) (r := 41) hG.1 fl_RX1_80 (sF_40 hS) rfl dX1_copyPlants_51 rfl ?_
  refine aw_iconst (n := 55) (v := 0) dX1_copyPlants_54 rfl (by decide) ?_
  refine aw_aload_n (n := 56) (i := 0) dX1_copyPlants_55 rfl rfl rfl ?_
  refine aw_getR (n := 59) (j := 6) (r := 63) hG.1 fl_RX1_18 (sF_60 hS) rfl dX1_copyPlants_56 rfl ?_
  refine aw_iconst (n := 60) (v := 0) dX1_copyPlants_59 rfl (by decide) ?_
  refine aw_bipush (n := 62) (v := 12) dX1_copyPlants_60 rfl (by decide) ?_
  obtain ⟨g_6, h⟩ := Ok.gd h
  obtain ⟨D_7, e_D_7, h⟩ := Ok.let_ h
  refine aw_copy (M := M_X1_copyPlants) (n := 65) hG.1 la_RX1_71 ma_copy.1 ma_copy.2.1 ma_copy.2.2 (sF_41 hS) (sF_63 hS) (aCg_ok g_6).1 (aCg_ok g_6).2.1 (aCg_ok g_6).2.2.1 (aCg_ok g_6).2.2.2.1 (aCg_ok g_6).2.2.2.2 e_D_7 (by decide) (Nat.le_of_ble_eq_true rfl) dX1_copyPlants_62 rfl ?_
  exact aw_vret rfl (by decide) (by decide) dX1_copyPlants_65 ⟨rfl, rfl, (Ok.dn h :)⟩
theorem dX1_placeOf_0 : decode cX1_placeOf 0 = .ok (.iload_n 0, 1) := by decide +kernel
theorem dX1_placeOf_1 : decode cX1_placeOf 1 = .ok (.iconst 5, 1) := by decide +kernel
theorem dX1_placeOf_2 : decode cX1_placeOf 2 = .ok (.imul, 1) := by decide +kernel
theorem dX1_placeOf_3 : decode cX1_placeOf 3 = .ok (.iload_n 1, 1) := by decide +kernel
theorem dX1_placeOf_4 : decode cX1_placeOf 4 = .ok (.iadd, 1) := by decide +kernel
theorem dX1_placeOf_5 : decode cX1_placeOf 5 = .ok (.bipush 12, 2) := by decide +kernel
theorem dX1_placeOf_7 : decode cX1_placeOf 7 = .ok (.imul, 1) := by decide +kernel
theorem dX1_placeOf_8 : decode cX1_placeOf 8 = .ok (.ireturn, 1) := by decide +kernel
def f_X1_placeOf (v0 : Int32) (v1 : Int32) (D : aD) : Option (Int32 × aD) :=
  some (((v0 * 5) + v1) * 12, D)
set_option maxRecDepth 100000 in
set_option maxHeartbeats 800000 in
theorem c_X1_placeOf {G : aG} (hG : gOK G) {shp : List aSh} (hS : aShp shp) {fr : Option Nat} {v0 : Int32} {v1 : Int32} {D : aD} {K : Int32 → aD → Prop} (h : Ok2 (f_X1_placeOf v0 v1 D) K) : AC G (aRm 1 0 0) M_X1_placeOf [.int v0, .int v1] fr shp D (aQi shp K) := by
  replace h := Ok2.ok h
  unfold f_X1_placeOf at h
  refine AC.of (al := [some (.int v0), some (.int v1)]) (r := 0) (by decide) (Nat.le_of_ble_eq_true rfl) rfl ?_
  refine aw_iload_n (n := 1) (i := 0) dX1_placeOf_0 rfl rfl rfl ?_
  refine aw_iconst (n := 2) (v := 5) dX1_placeOf_1 rfl (by decide) ?_
  refine aw_imul (n := 3) dX1_placeOf_2 rfl ?_
  refine aw_iload_n (n := 4) (i := 1) dX1_placeOf_3 rfl rfl rfl ?_
  refine aw_iadd (n := 5) dX1_placeOf_4 rfl ?_
  refine aw_bipush (n := 7) (v := 12) dX1_placeOf_5 rfl (by decide) ?_
  refine aw_imul (n := 8) dX1_placeOf_7 rfl ?_
  exact aw_iret rfl (by decide) (by decide) dX1_placeOf_8 ⟨_, rfl, rfl, (Ok.dn h :)⟩
theorem dX1_carry_0 : decode cX1_carry 0 = .ok (.aload_n 0, 1) := by decide +kernel
theorem dX1_carry_1 : decode cX1_carry 1 = .ok (.getfield 9, 3) := by decide +kernel
theorem dX1_carry_4 : decode cX1_carry 4 = .ok (.iload_n 1, 1) := by decide +kernel
theorem dX1_carry_5 : decode cX1_carry 5 = .ok (.iaload, 1) := by decide +kernel
theorem dX1_carry_6 : decode cX1_carry 6 = .ok (.istore 4, 2) := by decide +kernel
theorem dX1_carry_8 : decode cX1_carry 8 = .ok (.iconst 0, 1) := by decide +kernel
theorem dX1_carry_9 : decode cX1_carry 9 = .ok (.istore 5, 2) := by decide +kernel
theorem dX1_carry_11 : decode cX1_carry 11 = .ok (.iload 5, 2) := by decide +kernel
theorem dX1_carry_13 : decode cX1_carry 13 = .ok (.aload_n 0, 1) := by decide +kernel
theorem dX1_carry_14 : decode cX1_carry 14 = .ok (.getfield 33, 3) := by decide +kernel
theorem dX1_carry_17 : decode cX1_carry 17 = .ok (.getfield 86, 3) := by decide +kernel
theorem dX1_carry_20 : decode cX1_carry 20 = .ok (.if_icmp .ge 114, 3) := by decide +kernel
theorem dX1_carry_23 : decode cX1_carry 23 = .ok (.iload_n 3, 1) := by decide +kernel
theorem dX1_carry_24 : decode cX1_carry 24 = .ok (.iload 5, 2) := by decide +kernel
theorem dX1_carry_26 : decode cX1_carry 26 = .ok (.invokestatic 89, 3) := by decide +kernel
theorem dX1_carry_29 : decode cX1_carry 29 = .ok (.iload_n 1, 1) := by decide +kernel
theorem dX1_carry_30 : decode cX1_carry 30 = .ok (.iadd, 1) := by decide +kernel
theorem dX1_carry_31 : decode cX1_carry 31 = .ok (.istore 6, 2) := by decide +kernel
theorem dX1_carry_33 : decode cX1_carry 33 = .ok (.aload_n 0, 1) := by decide +kernel
theorem dX1_carry_34 : decode cX1_carry 34 = .ok (.getfield 33, 3) := by decide +kernel
theorem dX1_carry_37 : decode cX1_carry 37 = .ok (.getfield 93, 3) := by decide +kernel
theorem dX1_carry_40 : decode cX1_carry 40 = .ok (.aload_n 0, 1) := by decide +kernel
theorem dX1_carry_41 : decode cX1_carry 41 = .ok (.getfield 37, 3) := by decide +kernel
theorem dX1_carry_44 : decode cX1_carry 44 = .ok (.getfield 96, 3) := by decide +kernel
theorem dX1_carry_47 : decode cX1_carry 47 = .ok (.iload 5, 2) := by decide +kernel
theorem dX1_carry_49 : decode cX1_carry 49 = .ok (.iaload, 1) := by decide +kernel
theorem dX1_carry_50 : decode cX1_carry 50 = .ok (.iaload, 1) := by decide +kernel
theorem dX1_carry_51 : decode cX1_carry 51 = .ok (.istore 7, 2) := by decide +kernel
theorem dX1_carry_53 : decode cX1_carry 53 = .ok (.aload_n 0, 1) := by decide +kernel
theorem dX1_carry_54 : decode cX1_carry 54 = .ok (.getfield 37, 3) := by decide +kernel
theorem dX1_carry_57 : decode cX1_carry 57 = .ok (.getfield 99, 3) := by decide +kernel
theorem dX1_carry_60 : decode cX1_carry 60 = .ok (.iload 5, 2) := by decide +kernel
theorem dX1_carry_62 : decode cX1_carry 62 = .ok (.iadd, 1) := by decide +kernel
theorem dX1_carry_63 : decode cX1_carry 63 = .ok (.bipush 24, 2) := by decide +kernel
theorem dX1_carry_65 : decode cX1_carry 65 = .ok (.irem, 1) := by decide +kernel
theorem dX1_carry_66 : decode cX1_carry 66 = .ok (.istore 8, 2) := by decide +kernel
theorem dX1_carry_68 : decode cX1_carry 68 = .ok (.aload_n 0, 1) := by decide +kernel
theorem dX1_carry_69 : decode cX1_carry 69 = .ok (.getfield 21, 3) := by decide +kernel
theorem dX1_carry_72 : decode cX1_carry 72 = .ok (.iload 6, 2) := by decide +kernel
theorem dX1_carry_74 : decode cX1_carry 74 = .ok (.aload_n 0, 1) := by decide +kernel
theorem dX1_carry_75 : decode cX1_carry 75 = .ok (.getfield 33, 3) := by decide +kernel
theorem dX1_carry_78 : decode cX1_carry 78 = .ok (.iload 4, 2) := by decide +kernel
theorem dX1_carry_80 : decode cX1_carry 80 = .ok (.iconst 1, 1) := by decide +kernel
theorem dX1_carry_81 : decode cX1_carry 81 = .ok (.iload_n 2, 1) := by decide +kernel
theorem dX1_carry_82 : decode cX1_carry 82 = .ok (.iload 7, 2) := by decide +kernel
theorem dX1_carry_84 : decode cX1_carry 84 = .ok (.aload_n 0, 1) := by decide +kernel
theorem dX1_carry_85 : decode cX1_carry 85 = .ok (.getfield 37, 3) := by decide +kernel
theorem dX1_carry_88 : decode cX1_carry 88 = .ok (.getfield 102, 3) := by decide +kernel
theorem dX1_carry_91 : decode cX1_carry 91 = .ok (.iload 8, 2) := by decide +kernel
theorem dX1_carry_93 : decode cX1_carry 93 = .ok (.iload_n 3, 1) := by decide +kernel
theorem dX1_carry_94 : decode cX1_carry 94 = .ok (.invokevirtual 105, 3) := by decide +kernel
theorem dX1_carry_97 : decode cX1_carry 97 = .ok (.iastore, 1) := by decide +kernel
theorem dX1_carry_98 : decode cX1_carry 98 = .ok (.aload_n 0, 1) := by decide +kernel
theorem dX1_carry_99 : decode cX1_carry 99 = .ok (.getfield 24, 3) := by decide +kernel
theorem dX1_carry_102 : decode cX1_carry 102 = .ok (.iload 6, 2) := by decide +kernel
theorem dX1_carry_104 : decode cX1_carry 104 = .ok (.aload_n 0, 1) := by decide +kernel
theorem dX1_carry_105 : decode cX1_carry 105 = .ok (.getfield 33, 3) := by decide +kernel
theorem dX1_carry_108 : decode cX1_carry 108 = .ok (.iload 4, 2) := by decide +kernel
theorem dX1_carry_110 : decode cX1_carry 110 = .ok (.iconst 3, 1) := by decide +kernel
theorem dX1_carry_111 : decode cX1_carry 111 = .ok (.iload_n 2, 1) := by decide +kernel
theorem dX1_carry_112 : decode cX1_carry 112 = .ok (.iload 7, 2) := by decide +kernel
theorem dX1_carry_114 : decode cX1_carry 114 = .ok (.aload_n 0, 1) := by decide +kernel
theorem dX1_carry_115 : decode cX1_carry 115 = .ok (.getfield 37, 3) := by decide +kernel
theorem dX1_carry_118 : decode cX1_carry 118 = .ok (.getfield 102, 3) := by decide +kernel
theorem dX1_carry_121 : decode cX1_carry 121 = .ok (.iload 8, 2) := by decide +kernel
theorem dX1_carry_123 : decode cX1_carry 123 = .ok (.iload_n 3, 1) := by decide +kernel
theorem dX1_carry_124 : decode cX1_carry 124 = .ok (.invokevirtual 105, 3) := by decide +kernel
theorem dX1_carry_127 : decode cX1_carry 127 = .ok (.iastore, 1) := by decide +kernel
theorem dX1_carry_128 : decode cX1_carry 128 = .ok (.iinc 5 1, 3) := by decide +kernel
theorem dX1_carry_131 : decode cX1_carry 131 = .ok (.goto (-120), 3) := by decide +kernel
theorem dX1_carry_134 : decode cX1_carry 134 = .ok (.return_, 1) := by decide +kernel
def J_X1_carry_134 (D : aD) : Option (aD) :=
  some D
def B_X1_carry_11 (v1 : Int32) (v2 : Int32) (v3 : Int32) (v4 : Int32) (v5 : Int32) (D : aD) : Option ((Int32 × aD) ⊕ ((aD))) :=
  if gI D 2 5 ≤ v5 then (some (.inr D)) else (aBi (f_X1_placeOf v3 v5 D) (fun y_3 D_4 => aLet (y_3 + v1) (fun v6_5 => aGd (aIn v5 5) (aGd (aIn (gI D_4 42 v5.toNatClampNeg) 5) (aLet (gI D_4 11 (gI D_4 42 v5.toNatClampNeg).toNatClampNeg) (fun v7_8 => aLet (((gI D_4 40 2) + v5) - ((gI D_4 40 2) + v5) / 24 * 24) (fun v8_9 => aBi (f_X6_scent v4 1 v2 v7_8 (gI D_4 40 3) v8_9 v3 D_4) (fun y_10 D_11 => aGd (aIn v6_5 300) (aLet (pI D_11 64 v6_5.toNatClampNeg y_10) (fun D_13 => aBi (f_X6_scent v4 3 v2 v7_8 (gI D_13 40 3) v8_9 v3 D_13) (fun y_14 D_15 => aGd (aIn v6_5 300) (aLet (pI D_15 65 v6_5.toNatClampNeg y_14) (fun D_17 => aLet (v5 + 1) (fun v5_18 => some (.inl (v5_18, D_17))))))))))))))))
def J_X1_carry_11 (v1 : Int32) (v2 : Int32) (v3 : Int32) (v4 : Int32) (v5 : Int32) (D : aD) : Option (aD) :=
  (aLp (fun s => B_X1_carry_11 v1 v2 v3 v4 s.1 s.2) (v5, D)).bind (fun r => J_X1_carry_134 r)
def f_X1_carry (v1 : Int32) (v2 : Int32) (v3 : Int32) (D : aD) : Option (aD) :=
  aGd (aIn v1 12) (aLet (gI D 61 v1.toNatClampNeg) (fun v4_2 => J_X1_carry_11 v1 v2 v3 v4_2 0 D))
set_option maxRecDepth 100000 in
set_option maxHeartbeats 800000 in
theorem c_X1_carry {G : aG} (hG : gOK G) {shp : List aSh} (hS : aShp shp) {fr : Option Nat} {v1 : Int32} {v2 : Int32} {v3 : Int32} {D : aD} {K : aD → Prop} (h : Ok (f_X1_carry v1 v2 v3 D) K) : AC G (aRm 3 0 0) M_X1_carry [.ref 60, .int v1, .int v2, .int v3] fr shp D (aQv shp K) := by
  unfold f_X1_carry at h
  refine AC.of (al := [some (.ref 60), some (.int v1), some (.int v2), some (.int v3), none, none, none, none, none]) (r := 5) (by decide) (Nat.le_of_ble_eq_true rfl) rfl ?_
  have hJ_134 : ∀ (D : aD), Ok (J_X1_carry_134 D) K → AW G (aRm 3 0 0) M_X1_carry fr 0 0 134 [none, none, none, none, none, none, none, none, none] [] shp D (aQv shp K) := by
    intro D h
    unfold J_X1_carry_134 at h
    exact aw_vret rfl (by decide) (by decide) dX1_carry_134 ⟨rfl, rfl, (Ok.dn h :)⟩
  have hJ_11 : ∀ (v1 : Int32) (v2 : Int32) (v3 : Int32) (v4 : Int32) (v5 : Int32) (D : aD), Ok (J_X1_carry_11 v1 v2 v3 v4 v5 D) K → AW G (aRm 3 0 0) M_X1_carry fr 0 0 11 [some (.ref 60), some (.int v1), some (.int v2), some (.int v3), some (.int v4), some (.int v5), none, none, none] [] shp D (aQv shp K) := by
    intro v1 v2 v3 v4 v5 D h
    unfold J_X1_carry_11 at h
    refine Ok.lp (P := fun s => AW G (aRm 3 0 0) M_X1_carry fr 0 0 11 [some (.ref 60), some (.int v1), some (.int v2), some (.int v3), some (.int v4), some (.int (s.1)), none, none, none] [] shp s.2 (aQv shp K)) (fun s Kb11 hL11 hR11 h => ?_) (v5, D) (Ok.bind h)
    obtain ⟨v5, D⟩ := s
    replace h : Ok (B_X1_carry_11 v1 v2 v3 v4 v5 D) Kb11 := h
    unfold B_X1_carry_11 at h
    refine aw_iload (n := 13) (i := 5) dX1_carry_11 rfl rfl ?_
    refine aw_aload_n (n := 14) (i := 0) dX1_carry_13 rfl rfl rfl ?_
    refine aw_getR (n := 17) (j := 0) (r := 2) hG.1 fl_RX1_33 (sF_60 hS) rfl dX1_carry_14 rfl ?_
    refine aw_getI (n := 20) (j := 5) hG.1 fl_RX1_86 (sF_2 hS) rfl dX1_carry_17 rfl ?_
    refine aw_icmp_ge (n := 23) (tgt := 134) dX1_carry_20 rfl (by decide) (fun c => ?_) (fun c => ?_)
    · replace h := Ok.ift h c
      exact aw_le' (hJ_134 D (hR11 D (Ok.dn h :))) trivial
    · replace h := Ok.iff h c
      refine aw_iload_n (n := 24) (i := 3) dX1_carry_23 rfl rfl rfl ?_
      refine aw_iload (n := 26) (i := 5) dX1_carry_24 rfl rfl ?_
      refine aw_cSi (M := M_X1_carry) (n := 29) (As := [.int v3, .int v5]) (rest := []) lk_RX1_89 rfl rfl (c_X1_placeOf hG hS (h := Ok.bi h)) (by decide) (Nat.le_of_ble_eq_true rfl) (by decide) (by decide) dX1_carry_26 rfl (fun y_3 D_4 h => ?_)
      refine aw_iload_n (n := 30) (i := 1) dX1_carry_29 rfl rfl rfl ?_
      refine aw_iadd (n := 31) dX1_carry_30 rfl ?_
      obtain ⟨v6_5, e_v6_5, h⟩ := Ok.let_ h
      refine aw_istore (n := 33) (i := 6) (al' := [some (.ref 60), some (.int v1), some (.int v2), some (.int v3), some (.int v4), some (.int v5), some (.int v6_5), none, none]) dX1_carry_31 rfl e_v6_5 (by decide) rfl ?_
      refine aw_aload_n (n := 34) (i := 0) dX1_carry_33 rfl rfl rfl ?_
      refine aw_getR (n := 37) (j := 0) (r := 2) hG.1 fl_RX1_33 (sF_60 hS) rfl dX1_carry_34 rfl ?_
      refine aw_getR (n := 40) (j := 13) (r := 11) hG.1 fl_RX1_93 (sF_2 hS) rfl dX1_carry_37 rfl ?_
      refine aw_aload_n (n := 41) (i := 0) dX1_carry_40 rfl rfl rfl ?_
      refine aw_getR (n := 44) (j := 1) (r := 40) hG.1 fl_RX1_37 (sF_60 hS) rfl dX1_carry_41 rfl ?_
      refine aw_getR (n := 47) (j := 1) (r := 42) hG.1 fl_RX1_96 (sF_40 hS) rfl dX1_carry_44 rfl ?_
      refine aw_iload (n := 49) (i := 5) dX1_carry_47 rfl rfl ?_
      obtain ⟨g_6, h⟩ := Ok.gd h
      refine aw_iaload (n := 50) hG.1 (sF_42 hS) (aIn_in g_6) dX1_carry_49 rfl ?_
      obtain ⟨g_7, h⟩ := Ok.gd h
      refine aw_iaload (n := 51) hG.1 (sF_11 hS) (aIn_in g_7) dX1_carry_50 rfl ?_
      obtain ⟨v7_8, e_v7_8, h⟩ := Ok.let_ h
      refine aw_istore (n := 53) (i := 7) (al' := [some (.ref 60), some (.int v1), some (.int v2), some (.int v3), some (.int v4), some (.int v5), some (.int v6_5), some (.int v7_8), none]) dX1_carry_51 rfl e_v7_8 (by decide) rfl ?_
      refine aw_aload_n (n := 54) (i := 0) dX1_carry_53 rfl rfl rfl ?_
      refine aw_getR (n := 57) (j := 1) (r := 40) hG.1 fl_RX1_37 (sF_60 hS) rfl dX1_carry_54 rfl ?_
      refine aw_getI (n := 60) (j := 2) hG.1 fl_RX1_99 (sF_40 hS) rfl dX1_carry_57 rfl ?_
      refine aw_iload (n := 62) (i := 5) dX1_carry_60 rfl rfl ?_
      refine aw_iadd (n := 63) dX1_carry_62 rfl ?_
      refine aw_bipush (n := 65) (v := 24) dX1_carry_63 rfl (by decide) ?_
      refine aw_irem (n := 66) dX1_carry_65 rfl (by decide) ?_
      obtain ⟨v8_9, e_v8_9, h⟩ := Ok.let_ h
      refine aw_istore (n := 68) (i := 8) (al' := [some (.ref 60), some (.int v1), some (.int v2), some (.int v3), some (.int v4), some (.int v5), some (.int v6_5), some (.int v7_8), some (.int v8_9)]) dX1_carry_66 rfl e_v8_9 (by decide) rfl ?_
      refine aw_aload_n (n := 69) (i := 0) dX1_carry_68 rfl rfl rfl ?_
      refine aw_getR (n := 72) (j := 7) (r := 64) hG.1 fl_RX1_21 (sF_60 hS) rfl dX1_carry_69 rfl ?_
      refine aw_iload (n := 74) (i := 6) dX1_carry_72 rfl rfl ?_
      refine aw_aload_n (n := 75) (i := 0) dX1_carry_74 rfl rfl rfl ?_
      refine aw_getR (n := 78) (j := 0) (r := 2) hG.1 fl_RX1_33 (sF_60 hS) rfl dX1_carry_75 rfl ?_
      refine aw_iload (n := 80) (i := 4) dX1_carry_78 rfl rfl ?_
      refine aw_iconst (n := 81) (v := 1) dX1_carry_80 rfl (by decide) ?_
      refine aw_iload_n (n := 82) (i := 2) dX1_carry_81 rfl rfl rfl ?_
      refine aw_iload (n := 84) (i := 7) dX1_carry_82 rfl rfl ?_
      refine aw_aload_n (n := 85) (i := 0) dX1_carry_84 rfl rfl rfl ?_
      refine aw_getR (n := 88) (j := 1) (r := 40) hG.1 fl_RX1_37 (sF_60 hS) rfl dX1_carry_85 rfl ?_
      refine aw_getI (n := 91) (j := 3) hG.1 fl_RX1_102 (sF_40 hS) rfl dX1_carry_88 rfl ?_
      refine aw_iload (n := 93) (i := 8) dX1_carry_91 rfl rfl ?_
      refine aw_iload_n (n := 94) (i := 3) dX1_carry_93 rfl rfl rfl ?_
      refine aw_cVi (M := M_X1_carry) (n := 97) (As := [.int v4, .int 1, .int v2, .int v7_8, .int (gI D_4 40 3), .int v8_9, .int v3]) (rest := [.int v6_5, .ref 64]) hG.1 lk_RX1_105 rfl rfl (sF_2 hS) (c_X6_scent hG hS (h := Ok.bi h)) (by decide) (Nat.le_of_ble_eq_true rfl) (by decide) (by decide) dX1_carry_94 rfl (fun y_10 D_11 h => ?_)
      obtain ⟨g_12, h⟩ := Ok.gd h
      obtain ⟨D_13, e_D_13, h⟩ := Ok.let_ h
      refine aw_iastore (n := 98) hG.1 (sF_64 hS) (aIn_in g_12) e_D_13 dX1_carry_97 rfl ?_
      refine aw_aload_n (n := 99) (i := 0) dX1_carry_98 rfl rfl rfl ?_
      refine aw_getR (n := 102) (j := 8) (r := 65) hG.1 fl_RX1_24 (sF_60 hS) rfl dX1_carry_99 rfl ?_
      refine aw_iload (n := 104) (i := 6) dX1_carry_102 rfl rfl ?_
      refine aw_aload_n (n := 105) (i := 0) dX1_carry_104 rfl rfl rfl ?_
      refine aw_getR (n := 108) (j := 0) (r := 2) hG.1 fl_RX1_33 (sF_60 hS) rfl dX1_carry_105 rfl ?_
      refine aw_iload (n := 110) (i := 4) dX1_carry_108 rfl rfl ?_
      refine aw_iconst (n := 111) (v := 3) dX1_carry_110 rfl (by decide) ?_
      refine aw_iload_n (n := 112) (i := 2) dX1_carry_111 rfl rfl rfl ?_
      refine aw_iload (n := 114) (i := 7) dX1_carry_112 rfl rfl ?_
      refine aw_aload_n (n := 115) (i := 0) dX1_carry_114 rfl rfl rfl ?_
      refine aw_getR (n := 118) (j := 1) (r := 40) hG.1 fl_RX1_37 (sF_60 hS) rfl dX1_carry_115 rfl ?_
      refine aw_getI (n := 121) (j := 3) hG.1 fl_RX1_102 (sF_40 hS) rfl dX1_carry_118 rfl ?_
      refine aw_iload (n := 123) (i := 8) dX1_carry_121 rfl rfl ?_
      refine aw_iload_n (n := 124) (i := 3) dX1_carry_123 rfl rfl rfl ?_
      refine aw_cVi (M := M_X1_carry) (n := 127) (As := [.int v4, .int 3, .int v2, .int v7_8, .int (gI D_13 40 3), .int v8_9, .int v3]) (rest := [.int v6_5, .ref 65]) hG.1 lk_RX1_105 rfl rfl (sF_2 hS) (c_X6_scent hG hS (h := Ok.bi h)) (by decide) (Nat.le_of_ble_eq_true rfl) (by decide) (by decide) dX1_carry_124 rfl (fun y_14 D_15 h => ?_)
      obtain ⟨g_16, h⟩ := Ok.gd h
      obtain ⟨D_17, e_D_17, h⟩ := Ok.let_ h
      refine aw_iastore (n := 128) hG.1 (sF_65 hS) (aIn_in g_16) e_D_17 dX1_carry_127 rfl ?_
      obtain ⟨v5_18, e_v5_18, h⟩ := Ok.let_ h
      refine aw_iinc (n := 131) (al' := [some (.ref 60), some (.int v1), some (.int v2), some (.int v3), some (.int v4), some (.int v5_18), some (.int v6_5), some (.int v7_8), some (.int v8_9)]) dX1_carry_128 rfl rfl e_v5_18 (by decide) rfl ?_
      refine aw_goto (tgt := 11) dX1_carry_131 (by decide) ?_
      exact aw_le' (hL11 (v5_18, D_17) (Ok.dn h :)) ⟨rfl, ⟨rfl, ⟨rfl, ⟨rfl, ⟨rfl, ⟨rfl, trivial⟩⟩⟩⟩⟩⟩
  refine aw_aload_n (n := 1) (i := 0) dX1_carry_0 rfl rfl rfl ?_
  refine aw_getR (n := 4) (j := 4) (r := 61) hG.1 fl_RX1_9 (sF_60 hS) rfl dX1_carry_1 rfl ?_
  refine aw_iload_n (n := 5) (i := 1) dX1_carry_4 rfl rfl rfl ?_
  obtain ⟨g_1, h⟩ := Ok.gd h
  refine aw_iaload (n := 6) hG.1 (sF_61 hS) (aIn_in g_1) dX1_carry_5 rfl ?_
  obtain ⟨v4_2, e_v4_2, h⟩ := Ok.let_ h
  refine aw_istore (n := 8) (i := 4) (al' := [some (.ref 60), some (.int v1), some (.int v2), some (.int v3), some (.int v4_2), none, none, none, none]) dX1_carry_6 rfl e_v4_2 (by decide) rfl ?_
  refine aw_iconst (n := 9) (v := 0) dX1_carry_8 rfl (by decide) ?_
  refine aw_istore (n := 11) (i := 5) (al' := [some (.ref 60), some (.int v1), some (.int v2), some (.int v3), some (.int v4_2), some (.int 0), none, none, none]) dX1_carry_9 rfl rfl (by decide) rfl ?_
  exact aw_le' (hJ_11 v1 v2 v3 v4_2 0 D h) ⟨rfl, ⟨rfl, ⟨rfl, ⟨rfl, ⟨rfl, ⟨rfl, trivial⟩⟩⟩⟩⟩⟩
theorem dX1_prepare_0 : decode cX1_prepare 0 = .ok (.aload_n 0, 1) := by decide +kernel
theorem dX1_prepare_1 : decode cX1_prepare 1 = .ok (.invokevirtual 45, 3) := by decide +kernel
theorem dX1_prepare_4 : decode cX1_prepare 4 = .ok (.iconst 0, 1) := by decide +kernel
theorem dX1_prepare_5 : decode cX1_prepare 5 = .ok (.istore_n 2, 1) := by decide +kernel
theorem dX1_prepare_6 : decode cX1_prepare 6 = .ok (.iload_n 2, 1) := by decide +kernel
theorem dX1_prepare_7 : decode cX1_prepare 7 = .ok (.aload_n 0, 1) := by decide +kernel
theorem dX1_prepare_8 : decode cX1_prepare 8 = .ok (.getfield 48, 3) := by decide +kernel
theorem dX1_prepare_11 : decode cX1_prepare 11 = .ok (.if_icmp .ge 24, 3) := by decide +kernel
theorem dX1_prepare_14 : decode cX1_prepare 14 = .ok (.aload_n 0, 1) := by decide +kernel
theorem dX1_prepare_15 : decode cX1_prepare 15 = .ok (.iload_n 2, 1) := by decide +kernel
theorem dX1_prepare_16 : decode cX1_prepare 16 = .ok (.aload_n 0, 1) := by decide +kernel
theorem dX1_prepare_17 : decode cX1_prepare 17 = .ok (.getfield 33, 3) := by decide +kernel
theorem dX1_prepare_20 : decode cX1_prepare 20 = .ok (.getfield 52, 3) := by decide +kernel
theorem dX1_prepare_23 : decode cX1_prepare 23 = .ok (.iload_n 2, 1) := by decide +kernel
theorem dX1_prepare_24 : decode cX1_prepare 24 = .ok (.iaload, 1) := by decide +kernel
theorem dX1_prepare_25 : decode cX1_prepare 25 = .ok (.iload_n 1, 1) := by decide +kernel
theorem dX1_prepare_26 : decode cX1_prepare 26 = .ok (.invokevirtual 61, 3) := by decide +kernel
theorem dX1_prepare_29 : decode cX1_prepare 29 = .ok (.iinc 2 1, 3) := by decide +kernel
theorem dX1_prepare_32 : decode cX1_prepare 32 = .ok (.goto (-26), 3) := by decide +kernel
theorem dX1_prepare_35 : decode cX1_prepare 35 = .ok (.return_, 1) := by decide +kernel
def J_X1_prepare_35 (D : aD) : Option (aD) :=
  some D
def B_X1_prepare_6 (v1 : Int32) (v2 : Int32) (D : aD) : Option ((Int32 × aD) ⊕ ((aD))) :=
  if gI D 60 3 ≤ v2 then (some (.inr D)) else (aGd (aIn v2 12) ((f_X1_carry v2 (gI D 9 v2.toNatClampNeg) v1 D).bind (fun D_3 => aLet (v2 + 1) (fun v2_4 => some (.inl (v2_4, D_3))))))
def J_X1_prepare_6 (v1 : Int32) (v2 : Int32) (D : aD) : Option (aD) :=
  (aLp (fun s => B_X1_prepare_6 v1 s.1 s.2) (v2, D)).bind (fun r => J_X1_prepare_35 r)
def f_X1_prepare (v1 : Int32) (D : aD) : Option (aD) :=
  (f_X1_copyPlants D).bind (fun D_1 => J_X1_prepare_6 v1 0 D_1)
set_option maxRecDepth 100000 in
set_option maxHeartbeats 800000 in
theorem c_X1_prepare {G : aG} (hG : gOK G) {shp : List aSh} (hS : aShp shp) {fr : Option Nat} {v1 : Int32} {D : aD} {K : aD → Prop} (h : Ok (f_X1_prepare v1 D) K) : AC G (aRm 4 0 0) M_X1_prepare [.ref 60, .int v1] fr shp D (aQv shp K) := by
  unfold f_X1_prepare at h
  refine AC.of (al := [some (.ref 60), some (.int v1), none]) (r := 1) (by decide) (Nat.le_of_ble_eq_true rfl) rfl ?_
  have hJ_35 : ∀ (D : aD), Ok (J_X1_prepare_35 D) K → AW G (aRm 4 0 0) M_X1_prepare fr 0 0 35 [none, none, none] [] shp D (aQv shp K) := by
    intro D h
    unfold J_X1_prepare_35 at h
    exact aw_vret rfl (by decide) (by decide) dX1_prepare_35 ⟨rfl, rfl, (Ok.dn h :)⟩
  have hJ_6 : ∀ (v1 : Int32) (v2 : Int32) (D : aD), Ok (J_X1_prepare_6 v1 v2 D) K → AW G (aRm 4 0 0) M_X1_prepare fr 0 0 6 [some (.ref 60), some (.int v1), some (.int v2)] [] shp D (aQv shp K) := by
    intro v1 v2 D h
    unfold J_X1_prepare_6 at h
    refine Ok.lp (P := fun s => AW G (aRm 4 0 0) M_X1_prepare fr 0 0 6 [some (.ref 60), some (.int v1), some (.int (s.1))] [] shp s.2 (aQv shp K)) (fun s Kb6 hL6 hR6 h => ?_) (v2, D) (Ok.bind h)
    obtain ⟨v2, D⟩ := s
    replace h : Ok (B_X1_prepare_6 v1 v2 D) Kb6 := h
    unfold B_X1_prepare_6 at h
    refine aw_iload_n (n := 7) (i := 2) dX1_prepare_6 rfl rfl rfl ?_
    refine aw_aload_n (n := 8) (i := 0) dX1_prepare_7 rfl rfl rfl ?_
    refine aw_getI (n := 11) (j := 3) hG.1 fl_RX1_48 (sF_60 hS) rfl dX1_prepare_8 rfl ?_
    refine aw_icmp_ge (n := 14) (tgt := 35) dX1_prepare_11 rfl (by decide) (fun c => ?_) (fun c => ?_)
    · replace h := Ok.ift h c
      exact aw_le' (hJ_35 D (hR6 D (Ok.dn h :))) trivial
    · replace h := Ok.iff h c
      refine aw_aload_n (n := 15) (i := 0) dX1_prepare_14 rfl rfl rfl ?_
      refine aw_iload_n (n := 16) (i := 2) dX1_prepare_15 rfl rfl rfl ?_
      refine aw_aload_n (n := 17) (i := 0) dX1_prepare_16 rfl rfl rfl ?_
      refine aw_getR (n := 20) (j := 0) (r := 2) hG.1 fl_RX1_33 (sF_60 hS) rfl dX1_prepare_17 rfl ?_
      refine aw_getR (n := 23) (j := 11) (r := 9) hG.1 fl_RX1_52 (sF_2 hS) rfl dX1_prepare_20 rfl ?_
      refine aw_iload_n (n := 24) (i := 2) dX1_prepare_23 rfl rfl rfl ?_
      obtain ⟨g_2, h⟩ := Ok.gd h
      refine aw_iaload (n := 25) hG.1 (sF_9 hS) (aIn_in g_2) dX1_prepare_24 rfl ?_
      refine aw_iload_n (n := 26) (i := 1) dX1_prepare_25 rfl rfl rfl ?_
      refine aw_cVv (M := M_X1_prepare) (n := 29) (As := [.int v2, .int (gI D 9 v2.toNatClampNeg), .int v1]) (rest := []) hG.1 lk_RX1_61 rfl rfl (sF_60 hS) (c_X1_carry hG hS (h := Ok.bind h)) (by decide) (Nat.le_of_ble_eq_true rfl) (by decide) (by decide) dX1_prepare_26 rfl (fun D_3 h => ?_)
      obtain ⟨v2_4, e_v2_4, h⟩ := Ok.let_ h
      refine aw_iinc (n := 32) (al' := [some (.ref 60), some (.int v1), some (.int v2_4)]) dX1_prepare_29 rfl rfl e_v2_4 (by decide) rfl ?_
      refine aw_goto (tgt := 6) dX1_prepare_32 (by decide) ?_
      exact aw_le' (hL6 (v2_4, D_3) (Ok.dn h :)) ⟨rfl, ⟨rfl, ⟨rfl, trivial⟩⟩⟩
  refine aw_aload_n (n := 1) (i := 0) dX1_prepare_0 rfl rfl rfl ?_
  refine aw_cVv (M := M_X1_prepare) (n := 4) (As := []) (rest := []) hG.1 lk_RX1_45 rfl rfl (sF_60 hS) (c_X1_copyPlants hG hS (h := Ok.bind h)) (by decide) (Nat.le_of_ble_eq_true rfl) (by decide) (by decide) dX1_prepare_1 rfl (fun D_1 h => ?_)
  refine aw_iconst (n := 5) (v := 0) dX1_prepare_4 rfl (by decide) ?_
  refine aw_istore_n (n := 6) (i := 2) (al' := [some (.ref 60), some (.int v1), some (.int 0)]) dX1_prepare_5 rfl rfl rfl (by decide) rfl ?_
  exact aw_le' (hJ_6 v1 0 D_1 h) ⟨rfl, ⟨rfl, ⟨rfl, trivial⟩⟩⟩
theorem dX1_addUp_0 : decode cX1_addUp 0 = .ok (.aload_n 0, 1) := by decide +kernel
theorem dX1_addUp_1 : decode cX1_addUp 1 = .ok (.getfield 27, 3) := by decide +kernel
theorem dX1_addUp_4 : decode cX1_addUp 4 = .ok (.iconst 0, 1) := by decide +kernel
theorem dX1_addUp_5 : decode cX1_addUp 5 = .ok (.invokestatic 109, 3) := by decide +kernel
theorem dX1_addUp_8 : decode cX1_addUp 8 = .ok (.iconst 0, 1) := by decide +kernel
theorem dX1_addUp_9 : decode cX1_addUp 9 = .ok (.istore_n 2, 1) := by decide +kernel
theorem dX1_addUp_10 : decode cX1_addUp 10 = .ok (.iload_n 2, 1) := by decide +kernel
theorem dX1_addUp_11 : decode cX1_addUp 11 = .ok (.aload_n 0, 1) := by decide +kernel
theorem dX1_addUp_12 : decode cX1_addUp 12 = .ok (.getfield 33, 3) := by decide +kernel
theorem dX1_addUp_15 : decode cX1_addUp 15 = .ok (.getfield 86, 3) := by decide +kernel
theorem dX1_addUp_18 : decode cX1_addUp 18 = .ok (.if_icmp .ge 126, 3) := by decide +kernel
theorem dX1_addUp_21 : decode cX1_addUp 21 = .ok (.iload_n 1, 1) := by decide +kernel
theorem dX1_addUp_22 : decode cX1_addUp 22 = .ok (.iload_n 2, 1) := by decide +kernel
theorem dX1_addUp_23 : decode cX1_addUp 23 = .ok (.invokestatic 89, 3) := by decide +kernel
theorem dX1_addUp_26 : decode cX1_addUp 26 = .ok (.istore_n 3, 1) := by decide +kernel
theorem dX1_addUp_27 : decode cX1_addUp 27 = .ok (.aload_n 0, 1) := by decide +kernel
theorem dX1_addUp_28 : decode cX1_addUp 28 = .ok (.getfield 41, 3) := by decide +kernel
theorem dX1_addUp_31 : decode cX1_addUp 31 = .ok (.invokevirtual 115, 3) := by decide +kernel
theorem dX1_addUp_34 : decode cX1_addUp 34 = .ok (.iconst 0, 1) := by decide +kernel
theorem dX1_addUp_35 : decode cX1_addUp 35 = .ok (.istore 4, 2) := by decide +kernel
theorem dX1_addUp_37 : decode cX1_addUp 37 = .ok (.iload 4, 2) := by decide +kernel
theorem dX1_addUp_39 : decode cX1_addUp 39 = .ok (.aload_n 0, 1) := by decide +kernel
theorem dX1_addUp_40 : decode cX1_addUp 40 = .ok (.getfield 48, 3) := by decide +kernel
theorem dX1_addUp_43 : decode cX1_addUp 43 = .ok (.if_icmp .ge 84, 3) := by decide +kernel
theorem dX1_addUp_46 : decode cX1_addUp 46 = .ok (.aload_n 0, 1) := by decide +kernel
theorem dX1_addUp_47 : decode cX1_addUp 47 = .ok (.getfield 18, 3) := by decide +kernel
theorem dX1_addUp_50 : decode cX1_addUp 50 = .ok (.iload 4, 2) := by decide +kernel
theorem dX1_addUp_52 : decode cX1_addUp 52 = .ok (.iaload, 1) := by decide +kernel
theorem dX1_addUp_53 : decode cX1_addUp 53 = .ok (.istore 5, 2) := by decide +kernel
theorem dX1_addUp_55 : decode cX1_addUp 55 = .ok (.iload 5, 2) := by decide +kernel
theorem dX1_addUp_57 : decode cX1_addUp 57 = .ok (.iconst 1, 1) := by decide +kernel
theorem dX1_addUp_58 : decode cX1_addUp 58 = .ok (.if_icmp .ne 7, 3) := by decide +kernel
theorem dX1_addUp_61 : decode cX1_addUp 61 = .ok (.iconst 0, 1) := by decide +kernel
theorem dX1_addUp_62 : decode cX1_addUp 62 = .ok (.goto 29, 3) := by decide +kernel
theorem dX1_addUp_65 : decode cX1_addUp 65 = .ok (.iload 5, 2) := by decide +kernel
theorem dX1_addUp_67 : decode cX1_addUp 67 = .ok (.ifCond .ne 15, 3) := by decide +kernel
theorem dX1_addUp_70 : decode cX1_addUp 70 = .ok (.aload_n 0, 1) := by decide +kernel
theorem dX1_addUp_71 : decode cX1_addUp 71 = .ok (.getfield 21, 3) := by decide +kernel
theorem dX1_addUp_74 : decode cX1_addUp 74 = .ok (.iload_n 3, 1) := by decide +kernel
theorem dX1_addUp_75 : decode cX1_addUp 75 = .ok (.iload 4, 2) := by decide +kernel
theorem dX1_addUp_77 : decode cX1_addUp 77 = .ok (.iadd, 1) := by decide +kernel
theorem dX1_addUp_78 : decode cX1_addUp 78 = .ok (.iaload, 1) := by decide +kernel
theorem dX1_addUp_79 : decode cX1_addUp 79 = .ok (.goto 12, 3) := by decide +kernel
theorem dX1_addUp_82 : decode cX1_addUp 82 = .ok (.aload_n 0, 1) := by decide +kernel
theorem dX1_addUp_83 : decode cX1_addUp 83 = .ok (.getfield 24, 3) := by decide +kernel
theorem dX1_addUp_86 : decode cX1_addUp 86 = .ok (.iload_n 3, 1) := by decide +kernel
theorem dX1_addUp_87 : decode cX1_addUp 87 = .ok (.iload 4, 2) := by decide +kernel
theorem dX1_addUp_89 : decode cX1_addUp 89 = .ok (.iadd, 1) := by decide +kernel
theorem dX1_addUp_90 : decode cX1_addUp 90 = .ok (.iaload, 1) := by decide +kernel
theorem dX1_addUp_91 : decode cX1_addUp 91 = .ok (.istore 6, 2) := by decide +kernel
theorem dX1_addUp_93 : decode cX1_addUp 93 = .ok (.iload 6, 2) := by decide +kernel
theorem dX1_addUp_95 : decode cX1_addUp 95 = .ok (.ifCond .le 26, 3) := by decide +kernel
theorem dX1_addUp_98 : decode cX1_addUp 98 = .ok (.aload_n 0, 1) := by decide +kernel
theorem dX1_addUp_99 : decode cX1_addUp 99 = .ok (.getfield 41, 3) := by decide +kernel
theorem dX1_addUp_102 : decode cX1_addUp 102 = .ok (.aload_n 0, 1) := by decide +kernel
theorem dX1_addUp_103 : decode cX1_addUp 103 = .ok (.getfield 9, 3) := by decide +kernel
theorem dX1_addUp_106 : decode cX1_addUp 106 = .ok (.iload 4, 2) := by decide +kernel
theorem dX1_addUp_108 : decode cX1_addUp 108 = .ok (.iaload, 1) := by decide +kernel
theorem dX1_addUp_109 : decode cX1_addUp 109 = .ok (.aload_n 0, 1) := by decide +kernel
theorem dX1_addUp_110 : decode cX1_addUp 110 = .ok (.getfield 15, 3) := by decide +kernel
theorem dX1_addUp_113 : decode cX1_addUp 113 = .ok (.iload 4, 2) := by decide +kernel
theorem dX1_addUp_115 : decode cX1_addUp 115 = .ok (.iaload, 1) := by decide +kernel
theorem dX1_addUp_116 : decode cX1_addUp 116 = .ok (.iload 6, 2) := by decide +kernel
theorem dX1_addUp_118 : decode cX1_addUp 118 = .ok (.invokevirtual 120, 3) := by decide +kernel
theorem dX1_addUp_121 : decode cX1_addUp 121 = .ok (.iinc 4 1, 3) := by decide +kernel
theorem dX1_addUp_124 : decode cX1_addUp 124 = .ok (.goto (-87), 3) := by decide +kernel
theorem dX1_addUp_127 : decode cX1_addUp 127 = .ok (.aload_n 0, 1) := by decide +kernel
theorem dX1_addUp_128 : decode cX1_addUp 128 = .ok (.getfield 41, 3) := by decide +kernel
theorem dX1_addUp_131 : decode cX1_addUp 131 = .ok (.aload_n 0, 1) := by decide +kernel
theorem dX1_addUp_132 : decode cX1_addUp 132 = .ok (.getfield 27, 3) := by decide +kernel
theorem dX1_addUp_135 : decode cX1_addUp 135 = .ok (.invokevirtual 123, 3) := by decide +kernel
theorem dX1_addUp_138 : decode cX1_addUp 138 = .ok (.iinc 2 1, 3) := by decide +kernel
theorem dX1_addUp_141 : decode cX1_addUp 141 = .ok (.goto (-131), 3) := by decide +kernel
theorem dX1_addUp_144 : decode cX1_addUp 144 = .ok (.return_, 1) := by decide +kernel
def J_X1_addUp_144 (D : aD) : Option (aD) :=
  some D
def J_X1_addUp_127 (v1 : Int32) (v2 : Int32) (D : aD) : Option ((Int32 × aD) ⊕ ((aD))) :=
  (f_X0_addMarks 66 5 D).bind (fun D_5 => aLet (v2 + 1) (fun v2_6 => some (.inl (v2_6, D_5))))
def J_X1_addUp_91 (v1 : Int32) (v2 : Int32) (v3 : Int32) (v4 : Int32) (t0 : Int32) (D : aD) : Option ((Int32 × aD) ⊕ ((aD))) :=
  if t0 ≤ 0 then (aLet (v4 + 1) (fun v4_10 => some (.inl (v4_10, D)))) else (aGd (aIn v4 12) (aGd (aIn v4 12) ((f_X0_add (gI D 61 v4.toNatClampNeg) (gI D 62 v4.toNatClampNeg) t0 D).bind (fun D_13 => aLet (v4 + 1) (fun v4_14 => some (.inl (v4_14, D_13)))))))
def B_X1_addUp_37 (v1 : Int32) (v2 : Int32) (v3 : Int32) (v4 : Int32) (D : aD) : Option ((Int32 × aD) ⊕ ((aD))) :=
  if gI D 60 3 ≤ v4 then (some (.inr D)) else (aGd (aIn v4 12) (aLet (gI D 63 v4.toNatClampNeg) (fun v5_8 => if v5_8 ≠ 1 then (if v5_8 ≠ 0 then (aGd (aIn (v3 + v4) 300) (J_X1_addUp_91 v1 v2 v3 v4 (gI D 65 (v3 + v4).toNatClampNeg) D)) else (aGd (aIn (v3 + v4) 300) (J_X1_addUp_91 v1 v2 v3 v4 (gI D 64 (v3 + v4).toNatClampNeg) D))) else (J_X1_addUp_91 v1 v2 v3 v4 0 D))))
def J_X1_addUp_37 (v1 : Int32) (v2 : Int32) (v3 : Int32) (v4 : Int32) (D : aD) : Option ((Int32 × aD) ⊕ ((aD))) :=
  (aLp (fun s => B_X1_addUp_37 v1 v2 v3 s.1 s.2) (v4, D)).bind (fun r => J_X1_addUp_127 v1 v2 r)
def B_X1_addUp_10 (v1 : Int32) (v2 : Int32) (D : aD) : Option ((Int32 × aD) ⊕ ((aD))) :=
  if gI D 2 5 ≤ v2 then (some (.inr D)) else (aBi (f_X1_placeOf v1 v2 D) (fun y_2 D_3 => (f_X0_clear D_3).bind (fun D_4 => J_X1_addUp_37 v1 v2 y_2 0 D_4)))
def J_X1_addUp_10 (v1 : Int32) (v2 : Int32) (D : aD) : Option (aD) :=
  (aLp (fun s => B_X1_addUp_10 v1 s.1 s.2) (v2, D)).bind (fun r => J_X1_addUp_144 r)
def f_X1_addUp (v1 : Int32) (D : aD) : Option (aD) :=
  (f_J7_fill_53178 66 5 0 D).bind (fun D_1 => J_X1_addUp_10 v1 0 D_1)
set_option maxRecDepth 100000 in
set_option maxHeartbeats 800000 in
theorem c_X1_addUp {G : aG} (hG : gOK G) {shp : List aSh} (hS : aShp shp) {fr : Option Nat} {v1 : Int32} {D : aD} {K : aD → Prop} (h : Ok (f_X1_addUp v1 D) K) : AC G (aRm 3 0 0) M_X1_addUp [.ref 60, .int v1] fr shp D (aQv shp K) := by
  unfold f_X1_addUp at h
  refine AC.of (al := [some (.ref 60), some (.int v1), none, none, none, none, none]) (r := 5) (by decide) (Nat.le_of_ble_eq_true rfl) rfl ?_
  have hJ_144 : ∀ (D : aD), Ok (J_X1_addUp_144 D) K → AW G (aRm 3 0 0) M_X1_addUp fr 0 0 144 [none, none, none, none, none, none, none] [] shp D (aQv shp K) := by
    intro D h
    unfold J_X1_addUp_144 at h
    exact aw_vret rfl (by decide) (by decide) dX1_addUp_144 ⟨rfl, rfl, (Ok.dn h :)⟩
  have hJ_10 : ∀ (v1 : Int32) (v2 : Int32) (D : aD), Ok (J_X1_addUp_10 v1 v2 D) K → AW G (aRm 3 0 0) M_X1_addUp fr 0 0 10 [some (.ref 60), some (.int v1), some (.int v2), none, none, none, none] [] shp D (aQv shp K) := by
    intro v1 v2 D h
    unfold J_X1_addUp_10 at h
    refine Ok.lp (P := fun s => AW G (aRm 3 0 0) M_X1_addUp fr 0 0 10 [some (.ref 60), some (.int v1), some (.int (s.1)), none, none, none, none] [] shp s.2 (aQv shp K)) (fun s Kb10 hL10 hR10 h => ?_) (v2, D) (Ok.bind h)
    obtain ⟨v2, D⟩ := s
    replace h : Ok (B_X1_addUp_10 v1 v2 D) Kb10 := h
    unfold B_X1_addUp_10 at h
    have hJ_127 : ∀ (v2 : Int32) (D : aD), Ok (J_X1_addUp_127 v1 v2 D) Kb10 → AW G (aRm 3 0 0) M_X1_addUp fr 0 0 127 [some (.ref 60), some (.int v1), some (.int v2), none, none, none, none] [] shp D (aQv shp K) := by
      intro v2 D h
      unfold J_X1_addUp_127 at h
      refine aw_aload_n (n := 128) (i := 0) dX1_addUp_127 rfl rfl rfl ?_
      refine aw_getR (n := 131) (j := 2) (r := 57) hG.1 fl_RX1_41 (sF_60 hS) rfl dX1_addUp_128 rfl ?_
      refine aw_aload_n (n := 132) (i := 0) dX1_addUp_131 rfl rfl rfl ?_
      refine aw_getR (n := 135) (j := 9) (r := 66) hG.1 fl_RX1_27 (sF_60 hS) rfl dX1_addUp_132 rfl ?_
      refine aw_cVv (M := M_X1_addUp) (n := 138) (As := [.ref 66]) (rest := []) hG.1 lk_RX1_123 rfl rfl (sF_57 hS) (c_X0_addMarks hG hS (h := Ok.bind h) (sF_66 hS)) (by decide) (Nat.le_of_ble_eq_true rfl) (by decide) (by decide) dX1_addUp_135 rfl (fun D_5 h => ?_)
      obtain ⟨v2_6, e_v2_6, h⟩ := Ok.let_ h
      refine aw_iinc (n := 141) (al' := [some (.ref 60), some (.int v1), some (.int v2_6), none, none, none, none]) dX1_addUp_138 rfl rfl e_v2_6 (by decide) rfl ?_
      refine aw_goto (tgt := 10) dX1_addUp_141 (by decide) ?_
      exact aw_le' (hL10 (v2_6, D_5) (Ok.dn h :)) ⟨rfl, ⟨rfl, ⟨rfl, trivial⟩⟩⟩
    have hJ_37 : ∀ (v2 : Int32) (v3 : Int32) (v4 : Int32) (D : aD), Ok (J_X1_addUp_37 v1 v2 v3 v4 D) Kb10 → AW G (aRm 3 0 0) M_X1_addUp fr 0 0 37 [some (.ref 60), some (.int v1), some (.int v2), some (.int v3), some (.int v4), none, none] [] shp D (aQv shp K) := by
      intro v2 v3 v4 D h
      unfold J_X1_addUp_37 at h
      refine Ok.lp (P := fun s => AW G (aRm 3 0 0) M_X1_addUp fr 0 0 37 [some (.ref 60), some (.int v1), some (.int v2), some (.int v3), some (.int (s.1)), none, none] [] shp s.2 (aQv shp K)) (fun s Kb37 hL37 hR37 h => ?_) (v4, D) (Ok.bind h)
      obtain ⟨v4, D⟩ := s
      replace h : Ok (B_X1_addUp_37 v1 v2 v3 v4 D) Kb37 := h
      unfold B_X1_addUp_37 at h
      have hJ_91 : ∀ (v4 : Int32) (t0 : Int32) (D : aD), Ok (J_X1_addUp_91 v1 v2 v3 v4 t0 D) Kb37 → AW G (aRm 3 0 0) M_X1_addUp fr 0 0 91 [some (.ref 60), some (.int v1), some (.int v2), some (.int v3), some (.int v4), none, none] [.int t0] shp D (aQv shp K) := by
        intro v4 t0 D h
        unfold J_X1_addUp_91 at h
        refine aw_istore (n := 93) (i := 6) (al' := [some (.ref 60), some (.int v1), some (.int v2), some (.int v3), some (.int v4), none, some (.int t0)]) dX1_addUp_91 rfl rfl (by decide) rfl ?_
        refine aw_iload (n := 95) (i := 6) dX1_addUp_93 rfl rfl ?_
        refine aw_if_le (n := 98) (tgt := 121) dX1_addUp_95 rfl (by decide) (fun c => ?_) (fun c => ?_)
        · replace h := Ok.ift h c
          obtain ⟨v4_10, e_v4_10, h⟩ := Ok.let_ h
          refine aw_iinc (n := 124) (al' := [some (.ref 60), some (.int v1), some (.int v2), some (.int v3), some (.int v4_10), none, some (.int t0)]) dX1_addUp_121 rfl rfl e_v4_10 (by decide) rfl ?_
          refine aw_goto (tgt := 37) dX1_addUp_124 (by decide) ?_
          exact aw_le' (hL37 (v4_10, D) (Ok.dn h :)) ⟨rfl, ⟨rfl, ⟨rfl, ⟨rfl, ⟨rfl, trivial⟩⟩⟩⟩⟩
        · replace h := Ok.iff h c
          refine aw_aload_n (n := 99) (i := 0) dX1_addUp_98 rfl rfl rfl ?_
          refine aw_getR (n := 102) (j := 2) (r := 57) hG.1 fl_RX1_41 (sF_60 hS) rfl dX1_addUp_99 rfl ?_
          refine aw_aload_n (n := 103) (i := 0) dX1_addUp_102 rfl rfl rfl ?_
          refine aw_getR (n := 106) (j := 4) (r := 61) hG.1 fl_RX1_9 (sF_60 hS) rfl dX1_addUp_103 rfl ?_
          refine aw_iload (n := 108) (i := 4) dX1_addUp_106 rfl rfl ?_
          obtain ⟨g_11, h⟩ := Ok.gd h
          refine aw_iaload (n := 109) hG.1 (sF_61 hS) (aIn_in g_11) dX1_addUp_108 rfl ?_
          refine aw_aload_n (n := 110) (i := 0) dX1_addUp_109 rfl rfl rfl ?_
          refine aw_getR (n := 113) (j := 5) (r := 62) hG.1 fl_RX1_15 (sF_60 hS) rfl dX1_addUp_110 rfl ?_
          refine aw_iload (n := 115) (i := 4) dX1_addUp_113 rfl rfl ?_
          obtain ⟨g_12, h⟩ := Ok.gd h
          refine aw_iaload (n := 116) hG.1 (sF_62 hS) (aIn_in g_12) dX1_addUp_115 rfl ?_
          refine aw_iload (n := 118) (i := 6) dX1_addUp_116 rfl rfl ?_
          refine aw_cVv (M := M_X1_addUp) (n := 121) (As := [.int (gI D 61 v4.toNatClampNeg), .int (gI D 62 v4.toNatClampNeg), .int t0]) (rest := []) hG.1 lk_RX1_120 rfl rfl (sF_57 hS) (c_X0_add hG hS (h := Ok.bind h)) (by decide) (Nat.le_of_ble_eq_true rfl) (by decide) (by decide) dX1_addUp_118 rfl (fun D_13 h => ?_)
          obtain ⟨v4_14, e_v4_14, h⟩ := Ok.let_ h
          refine aw_iinc (n := 124) (al' := [some (.ref 60), some (.int v1), some (.int v2), some (.int v3), some (.int v4_14), none, some (.int t0)]) dX1_addUp_121 rfl rfl e_v4_14 (by decide) rfl ?_
          refine aw_goto (tgt := 37) dX1_addUp_124 (by decide) ?_
          exact aw_le' (hL37 (v4_14, D_13) (Ok.dn h :)) ⟨rfl, ⟨rfl, ⟨rfl, ⟨rfl, ⟨rfl, trivial⟩⟩⟩⟩⟩
      refine aw_iload (n := 39) (i := 4) dX1_addUp_37 rfl rfl ?_
      refine aw_aload_n (n := 40) (i := 0) dX1_addUp_39 rfl rfl rfl ?_
      refine aw_getI (n := 43) (j := 3) hG.1 fl_RX1_48 (sF_60 hS) rfl dX1_addUp_40 rfl ?_
      refine aw_icmp_ge (n := 46) (tgt := 127) dX1_addUp_43 rfl (by decide) (fun c => ?_) (fun c => ?_)
      · replace h := Ok.ift h c
        exact aw_le' (hJ_127 v2 D (hR37 D (Ok.dn h :))) ⟨rfl, ⟨rfl, ⟨rfl, trivial⟩⟩⟩
      · replace h := Ok.iff h c
        refine aw_aload_n (n := 47) (i := 0) dX1_addUp_46 rfl rfl rfl ?_
        refine aw_getR (n := 50) (j := 6) (r := 63) hG.1 fl_RX1_18 (sF_60 hS) rfl dX1_addUp_47 rfl ?_
        refine aw_iload (n := 52) (i := 4) dX1_addUp_50 rfl rfl ?_
        obtain ⟨g_7, h⟩ := Ok.gd h
        refine aw_iaload (n := 53) hG.1 (sF_63 hS) (aIn_in g_7) dX1_addUp_52 rfl ?_
        obtain ⟨v5_8, e_v5_8, h⟩ := Ok.let_ h
        refine aw_istore (n := 55) (i := 5) (al' := [some (.ref 60), some (.int v1), some (.int v2), some (.int v3), some (.int v4), some (.int v5_8), none]) dX1_addUp_53 rfl e_v5_8 (by decide) rfl ?_
        refine aw_iload (n := 57) (i := 5) dX1_addUp_55 rfl rfl ?_
        refine aw_iconst (n := 58) (v := 1) dX1_addUp_57 rfl (by decide) ?_
        refine aw_icmp_ne (n := 61) (tgt := 65) dX1_addUp_58 rfl (by decide) (fun c => ?_) (fun c => ?_)
        · replace h := Ok.ift h c
          refine aw_iload (n := 67) (i := 5) dX1_addUp_65 rfl rfl ?_
          refine aw_if_ne (n := 70) (tgt := 82) dX1_addUp_67 rfl (by decide) (fun c => ?_) (fun c => ?_)
          · replace h := Ok.ift h c
            refine aw_aload_n (n := 83) (i := 0) dX1_addUp_82 rfl rfl rfl ?_
            refine aw_getR (n := 86) (j := 8) (r := 65) hG.1 fl_RX1_24 (sF_60 hS) rfl dX1_addUp_83 rfl ?_
            refine aw_iload_n (n := 87) (i := 3) dX1_addUp_86 rfl rfl rfl ?_
            refine aw_iload (n := 89) (i := 4) dX1_addUp_87 rfl rfl ?_
            refine aw_iadd (n := 90) dX1_addUp_89 rfl ?_
            obtain ⟨g_9, h⟩ := Ok.gd h
            refine aw_iaload (n := 91) hG.1 (sF_65 hS) (aIn_in g_9) dX1_addUp_90 rfl ?_
            exact aw_le' (hJ_91 v4 (gI D 65 (v3 + v4).toNatClampNeg) D h) ⟨rfl, ⟨rfl, ⟨rfl, ⟨rfl, ⟨rfl, trivial⟩⟩⟩⟩⟩
          · replace h := Ok.iffn h c
            refine aw_aload_n (n := 71) (i := 0) dX1_addUp_70 rfl rfl rfl ?_
            refine aw_getR (n := 74) (j := 7) (r := 64) hG.1 fl_RX1_21 (sF_60 hS) rfl dX1_addUp_71 rfl ?_
            refine aw_iload_n (n := 75) (i := 3) dX1_addUp_74 rfl rfl rfl ?_
            refine aw_iload (n := 77) (i := 4) dX1_addUp_75 rfl rfl ?_
            refine aw_iadd (n := 78) dX1_addUp_77 rfl ?_
            obtain ⟨g_15, h⟩ := Ok.gd h
            refine aw_iaload (n := 79) hG.1 (sF_64 hS) (aIn_in g_15) dX1_addUp_78 rfl ?_
            refine aw_goto (tgt := 91) dX1_addUp_79 (by decide) ?_
            exact aw_le' (hJ_91 v4 (gI D 64 (v3 + v4).toNatClampNeg) D h) ⟨rfl, ⟨rfl, ⟨rfl, ⟨rfl, ⟨rfl, trivial⟩⟩⟩⟩⟩
        · replace h := Ok.iffn h c
          refine aw_iconst (n := 62) (v := 0) dX1_addUp_61 rfl (by decide) ?_
          refine aw_goto (tgt := 91) dX1_addUp_62 (by decide) ?_
          exact aw_le' (hJ_91 v4 0 D h) ⟨rfl, ⟨rfl, ⟨rfl, ⟨rfl, ⟨rfl, trivial⟩⟩⟩⟩⟩
    refine aw_iload_n (n := 11) (i := 2) dX1_addUp_10 rfl rfl rfl ?_
    refine aw_aload_n (n := 12) (i := 0) dX1_addUp_11 rfl rfl rfl ?_
    refine aw_getR (n := 15) (j := 0) (r := 2) hG.1 fl_RX1_33 (sF_60 hS) rfl dX1_addUp_12 rfl ?_
    refine aw_getI (n := 18) (j := 5) hG.1 fl_RX1_86 (sF_2 hS) rfl dX1_addUp_15 rfl ?_
    refine aw_icmp_ge (n := 21) (tgt := 144) dX1_addUp_18 rfl (by decide) (fun c => ?_) (fun c => ?_)
    · replace h := Ok.ift h c
      exact aw_le' (hJ_144 D (hR10 D (Ok.dn h :))) trivial
    · replace h := Ok.iff h c
      refine aw_iload_n (n := 22) (i := 1) dX1_addUp_21 rfl rfl rfl ?_
      refine aw_iload_n (n := 23) (i := 2) dX1_addUp_22 rfl rfl rfl ?_
      refine aw_cSi (M := M_X1_addUp) (n := 26) (As := [.int v1, .int v2]) (rest := []) lk_RX1_89 rfl rfl (c_X1_placeOf hG hS (h := Ok.bi h)) (by decide) (Nat.le_of_ble_eq_true rfl) (by decide) (by decide) dX1_addUp_23 rfl (fun y_2 D_3 h => ?_)
      refine aw_istore_n (n := 27) (i := 3) (al' := [some (.ref 60), some (.int v1), some (.int v2), some (.int y_2), none, none, none]) dX1_addUp_26 rfl rfl rfl (by decide) rfl ?_
      refine aw_aload_n (n := 28) (i := 0) dX1_addUp_27 rfl rfl rfl ?_
      refine aw_getR (n := 31) (j := 2) (r := 57) hG.1 fl_RX1_41 (sF_60 hS) rfl dX1_addUp_28 rfl ?_
      refine aw_cVv (M := M_X1_addUp) (n := 34) (As := []) (rest := []) hG.1 lk_RX1_115 rfl rfl (sF_57 hS) (c_X0_clear hG hS (h := Ok.bind h)) (by decide) (Nat.le_of_ble_eq_true rfl) (by decide) (by decide) dX1_addUp_31 rfl (fun D_4 h => ?_)
      refine aw_iconst (n := 35) (v := 0) dX1_addUp_34 rfl (by decide) ?_
      refine aw_istore (n := 37) (i := 4) (al' := [some (.ref 60), some (.int v1), some (.int v2), some (.int y_2), some (.int 0), none, none]) dX1_addUp_35 rfl rfl (by decide) rfl ?_
      exact aw_le' (hJ_37 v2 y_2 0 D_4 h) ⟨rfl, ⟨rfl, ⟨rfl, ⟨rfl, ⟨rfl, trivial⟩⟩⟩⟩⟩
  refine aw_aload_n (n := 1) (i := 0) dX1_addUp_0 rfl rfl rfl ?_
  refine aw_getR (n := 4) (j := 9) (r := 66) hG.1 fl_RX1_27 (sF_60 hS) rfl dX1_addUp_1 rfl ?_
  refine aw_iconst (n := 5) (v := 0) dX1_addUp_4 rfl (by decide) ?_
  refine aw_cSv (M := M_X1_addUp) (n := 8) (As := [.ref 66, .int 0]) (rest := []) lk_RX1_109 rfl rfl (c_J7_fill_53178 hG (h := Ok.bind h) (sF_66 hS)) (by decide) (Nat.le_of_ble_eq_true rfl) (by decide) (by decide) dX1_addUp_5 rfl (fun D_1 h => ?_)
  refine aw_iconst (n := 9) (v := 0) dX1_addUp_8 rfl (by decide) ?_
  refine aw_istore_n (n := 10) (i := 2) (al' := [some (.ref 60), some (.int v1), some (.int 0), none, none, none, none]) dX1_addUp_9 rfl rfl rfl (by decide) rfl ?_
  exact aw_le' (hJ_10 v1 0 D_1 h) ⟨rfl, ⟨rfl, ⟨rfl, trivial⟩⟩⟩
theorem dX1_first_0 : decode cX1_first 0 = .ok (.iconst 0, 1) := by decide +kernel
theorem dX1_first_1 : decode cX1_first 1 = .ok (.istore_n 1, 1) := by decide +kernel
theorem dX1_first_2 : decode cX1_first 2 = .ok (.iconst 1, 1) := by decide +kernel
theorem dX1_first_3 : decode cX1_first 3 = .ok (.istore_n 2, 1) := by decide +kernel
theorem dX1_first_4 : decode cX1_first 4 = .ok (.iload_n 2, 1) := by decide +kernel
theorem dX1_first_5 : decode cX1_first 5 = .ok (.aload_n 0, 1) := by decide +kernel
theorem dX1_first_6 : decode cX1_first 6 = .ok (.getfield 33, 3) := by decide +kernel
theorem dX1_first_9 : decode cX1_first 9 = .ok (.getfield 127, 3) := by decide +kernel
theorem dX1_first_12 : decode cX1_first 12 = .ok (.if_icmp .ge 26, 3) := by decide +kernel
theorem dX1_first_15 : decode cX1_first 15 = .ok (.aload_n 0, 1) := by decide +kernel
theorem dX1_first_16 : decode cX1_first 16 = .ok (.getfield 27, 3) := by decide +kernel
theorem dX1_first_19 : decode cX1_first 19 = .ok (.iload_n 2, 1) := by decide +kernel
theorem dX1_first_20 : decode cX1_first 20 = .ok (.iaload, 1) := by decide +kernel
theorem dX1_first_21 : decode cX1_first 21 = .ok (.aload_n 0, 1) := by decide +kernel
theorem dX1_first_22 : decode cX1_first 22 = .ok (.getfield 27, 3) := by decide +kernel
theorem dX1_first_25 : decode cX1_first 25 = .ok (.iload_n 1, 1) := by decide +kernel
theorem dX1_first_26 : decode cX1_first 26 = .ok (.iaload, 1) := by decide +kernel
theorem dX1_first_27 : decode cX1_first 27 = .ok (.if_icmp .le 5, 3) := by decide +kernel
theorem dX1_first_30 : decode cX1_first 30 = .ok (.iload_n 2, 1) := by decide +kernel
theorem dX1_first_31 : decode cX1_first 31 = .ok (.istore_n 1, 1) := by decide +kernel
theorem dX1_first_32 : decode cX1_first 32 = .ok (.iinc 2 1, 3) := by decide +kernel
theorem dX1_first_35 : decode cX1_first 35 = .ok (.goto (-31), 3) := by decide +kernel
theorem dX1_first_38 : decode cX1_first 38 = .ok (.iload_n 1, 1) := by decide +kernel
theorem dX1_first_39 : decode cX1_first 39 = .ok (.ireturn, 1) := by decide +kernel
def J_X1_first_38 (v1 : Int32) (D : aD) : Option (Int32 × aD) :=
  some (v1, D)
def B_X1_first_4 (v1 : Int32) (v2 : Int32) (D : aD) : Option ((Int32 × Int32 × aD) ⊕ ((Int32 × aD))) :=
  if gI D 2 3 ≤ v2 then (some (.inr (v1, D))) else (aGd (aIn v2 5) (aGd (aIn v1 5) (if gI D 66 v2.toNatClampNeg ≤ gI D 66 v1.toNatClampNeg then (aLet (v2 + 1) (fun v2_3 => some (.inl (v1, v2_3, D)))) else (aLet (v2 + 1) (fun v2_4 => some (.inl (v2, v2_4, D)))))))
def J_X1_first_4 (v1 : Int32) (v2 : Int32) (D : aD) : Option (Int32 × aD) :=
  (aLp (fun s => B_X1_first_4 s.1 s.2.1 s.2.2) (v1, v2, D)).bind (fun r => J_X1_first_38 (r.1) r.2)
def f_X1_first (D : aD) : Option (Int32 × aD) :=
  J_X1_first_4 0 1 D
set_option maxRecDepth 100000 in
set_option maxHeartbeats 800000 in
theorem c_X1_first {G : aG} (hG : gOK G) {shp : List aSh} (hS : aShp shp) {fr : Option Nat} {D : aD} {K : Int32 → aD → Prop} (h : Ok2 (f_X1_first D) K) : AC G (aRm 1 0 0) M_X1_first [.ref 60] fr shp D (aQi shp K) := by
  replace h := Ok2.ok h
  unfold f_X1_first at h
  refine AC.of (al := [some (.ref 60), none, none]) (r := 2) (by decide) (Nat.le_of_ble_eq_true rfl) rfl ?_
  have hJ_38 : ∀ (v1 : Int32) (D : aD), Ok (J_X1_first_38 v1 D) (fun r => K r.1 r.2) → AW G (aRm 1 0 0) M_X1_first fr 0 0 38 [none, some (.int v1), none] [] shp D (aQi shp K) := by
    intro v1 D h
    unfold J_X1_first_38 at h
    refine aw_iload_n (n := 39) (i := 1) dX1_first_38 rfl rfl rfl ?_
    exact aw_iret rfl (by decide) (by decide) dX1_first_39 ⟨_, rfl, rfl, (Ok.dn h :)⟩
  have hJ_4 : ∀ (v1 : Int32) (v2 : Int32) (D : aD), Ok (J_X1_first_4 v1 v2 D) (fun r => K r.1 r.2) → AW G (aRm 1 0 0) M_X1_first fr 0 0 4 [some (.ref 60), some (.int v1), some (.int v2)] [] shp D (aQi shp K) := by
    intro v1 v2 D h
    unfold J_X1_first_4 at h
    refine Ok.lp (P := fun s => AW G (aRm 1 0 0) M_X1_first fr 0 0 4 [some (.ref 60), some (.int (s.1)), some (.int (s.2.1))] [] shp s.2.2 (aQi shp K)) (fun s Kb4 hL4 hR4 h => ?_) (v1, v2, D) (Ok.bind h)
    obtain ⟨v1, v2, D⟩ := s
    replace h : Ok (B_X1_first_4 v1 v2 D) Kb4 := h
    unfold B_X1_first_4 at h
    refine aw_iload_n (n := 5) (i := 2) dX1_first_4 rfl rfl rfl ?_
    refine aw_aload_n (n := 6) (i := 0) dX1_first_5 rfl rfl rfl ?_
    refine aw_getR (n := 9) (j := 0) (r := 2) hG.1 fl_RX1_33 (sF_60 hS) rfl dX1_first_6 rfl ?_
    refine aw_getI (n := 12) (j := 3) hG.1 fl_RX1_127 (sF_2 hS) rfl dX1_first_9 rfl ?_
    refine aw_icmp_ge (n := 15) (tgt := 38) dX1_first_12 rfl (by decide) (fun c => ?_) (fun c => ?_)
    · replace h := Ok.ift h c
      exact aw_le' (hJ_38 v1 D (hR4 (v1, D) (Ok.dn h :))) ⟨rfl, trivial⟩
    · replace h := Ok.iff h c
      refine aw_aload_n (n := 16) (i := 0) dX1_first_15 rfl rfl rfl ?_
      refine aw_getR (n := 19) (j := 9) (r := 66) hG.1 fl_RX1_27 (sF_60 hS) rfl dX1_first_16 rfl ?_
      refine aw_iload_n (n := 20) (i := 2) dX1_first_19 rfl rfl rfl ?_
      obtain ⟨g_1, h⟩ := Ok.gd h
      refine aw_iaload (n := 21) hG.1 (sF_66 hS) (aIn_in g_1) dX1_first_20 rfl ?_
      refine aw_aload_n (n := 22) (i := 0) dX1_first_21 rfl rfl rfl ?_
      refine aw_getR (n := 25) (j := 9) (r := 66) hG.1 fl_RX1_27 (sF_60 hS) rfl dX1_first_22 rfl ?_
      refine aw_iload_n (n := 26) (i := 1) dX1_first_25 rfl rfl rfl ?_
      obtain ⟨g_2, h⟩ := Ok.gd h
      refine aw_iaload (n := 27) hG.1 (sF_66 hS) (aIn_in g_2) dX1_first_26 rfl ?_
      refine aw_icmp_le (n := 30) (tgt := 32) dX1_first_27 rfl (by decide) (fun c => ?_) (fun c => ?_)
      · replace h := Ok.ift h c
        obtain ⟨v2_3, e_v2_3, h⟩ := Ok.let_ h
        refine aw_iinc (n := 35) (al' := [some (.ref 60), some (.int v1), some (.int v2_3)]) dX1_first_32 rfl rfl e_v2_3 (by decide) rfl ?_
        refine aw_goto (tgt := 4) dX1_first_35 (by decide) ?_
        exact aw_le' (hL4 (v1, v2_3, D) (Ok.dn h :)) ⟨rfl, ⟨rfl, ⟨rfl, trivial⟩⟩⟩
      · replace h := Ok.iff h c
        refine aw_iload_n (n := 31) (i := 2) dX1_first_30 rfl rfl rfl ?_
        refine aw_istore_n (n := 32) (i := 1) (al' := [some (.ref 60), some (.int v2), some (.int v2)]) dX1_first_31 rfl rfl rfl (by decide) rfl ?_
        obtain ⟨v2_4, e_v2_4, h⟩ := Ok.let_ h
        refine aw_iinc (n := 35) (al' := [some (.ref 60), some (.int v2), some (.int v2_4)]) dX1_first_32 rfl rfl e_v2_4 (by decide) rfl ?_
        refine aw_goto (tgt := 4) dX1_first_35 (by decide) ?_
        exact aw_le' (hL4 (v2, v2_4, D) (Ok.dn h :)) ⟨rfl, ⟨rfl, ⟨rfl, trivial⟩⟩⟩
  refine aw_iconst (n := 1) (v := 0) dX1_first_0 rfl (by decide) ?_
  refine aw_istore_n (n := 2) (i := 1) (al' := [some (.ref 60), some (.int 0), none]) dX1_first_1 rfl rfl rfl (by decide) rfl ?_
  refine aw_iconst (n := 3) (v := 1) dX1_first_2 rfl (by decide) ?_
  refine aw_istore_n (n := 4) (i := 2) (al' := [some (.ref 60), some (.int 0), some (.int 1)]) dX1_first_3 rfl rfl rfl (by decide) rfl ?_
  exact aw_le' (hJ_4 0 1 D h) ⟨rfl, ⟨rfl, ⟨rfl, trivial⟩⟩⟩
theorem dX1_lead_0 : decode cX1_lead 0 = .ok (.aload_n 0, 1) := by decide +kernel
theorem dX1_lead_1 : decode cX1_lead 1 = .ok (.invokevirtual 130, 3) := by decide +kernel
theorem dX1_lead_4 : decode cX1_lead 4 = .ok (.istore_n 1, 1) := by decide +kernel
theorem dX1_lead_5 : decode cX1_lead 5 = .ok (.iconst (-1), 1) := by decide +kernel
theorem dX1_lead_6 : decode cX1_lead 6 = .ok (.istore_n 2, 1) := by decide +kernel
theorem dX1_lead_7 : decode cX1_lead 7 = .ok (.iconst 0, 1) := by decide +kernel
theorem dX1_lead_8 : decode cX1_lead 8 = .ok (.istore_n 3, 1) := by decide +kernel
theorem dX1_lead_9 : decode cX1_lead 9 = .ok (.iload_n 3, 1) := by decide +kernel
theorem dX1_lead_10 : decode cX1_lead 10 = .ok (.aload_n 0, 1) := by decide +kernel
theorem dX1_lead_11 : decode cX1_lead 11 = .ok (.getfield 33, 3) := by decide +kernel
theorem dX1_lead_14 : decode cX1_lead 14 = .ok (.getfield 127, 3) := by decide +kernel
theorem dX1_lead_17 : decode cX1_lead 17 = .ok (.if_icmp .ge 36, 3) := by decide +kernel
theorem dX1_lead_20 : decode cX1_lead 20 = .ok (.iload_n 3, 1) := by decide +kernel
theorem dX1_lead_21 : decode cX1_lead 21 = .ok (.iload_n 1, 1) := by decide +kernel
theorem dX1_lead_22 : decode cX1_lead 22 = .ok (.if_icmp .eq 25, 3) := by decide +kernel
theorem dX1_lead_25 : decode cX1_lead 25 = .ok (.iload_n 2, 1) := by decide +kernel
theorem dX1_lead_26 : decode cX1_lead 26 = .ok (.iconst (-1), 1) := by decide +kernel
theorem dX1_lead_27 : decode cX1_lead 27 = .ok (.if_icmp .eq 18, 3) := by decide +kernel
theorem dX1_lead_30 : decode cX1_lead 30 = .ok (.aload_n 0, 1) := by decide +kernel
theorem dX1_lead_31 : decode cX1_lead 31 = .ok (.getfield 27, 3) := by decide +kernel
theorem dX1_lead_34 : decode cX1_lead 34 = .ok (.iload_n 3, 1) := by decide +kernel
theorem dX1_lead_35 : decode cX1_lead 35 = .ok (.iaload, 1) := by decide +kernel
theorem dX1_lead_36 : decode cX1_lead 36 = .ok (.aload_n 0, 1) := by decide +kernel
theorem dX1_lead_37 : decode cX1_lead 37 = .ok (.getfield 27, 3) := by decide +kernel
theorem dX1_lead_40 : decode cX1_lead 40 = .ok (.iload_n 2, 1) := by decide +kernel
theorem dX1_lead_41 : decode cX1_lead 41 = .ok (.iaload, 1) := by decide +kernel
theorem dX1_lead_42 : decode cX1_lead 42 = .ok (.if_icmp .le 5, 3) := by decide +kernel
theorem dX1_lead_45 : decode cX1_lead 45 = .ok (.iload_n 3, 1) := by decide +kernel
theorem dX1_lead_46 : decode cX1_lead 46 = .ok (.istore_n 2, 1) := by decide +kernel
theorem dX1_lead_47 : decode cX1_lead 47 = .ok (.iinc 3 1, 3) := by decide +kernel
theorem dX1_lead_50 : decode cX1_lead 50 = .ok (.goto (-41), 3) := by decide +kernel
theorem dX1_lead_53 : decode cX1_lead 53 = .ok (.iload_n 2, 1) := by decide +kernel
theorem dX1_lead_54 : decode cX1_lead 54 = .ok (.iconst (-1), 1) := by decide +kernel
theorem dX1_lead_55 : decode cX1_lead 55 = .ok (.if_icmp .ne 7, 3) := by decide +kernel
theorem dX1_lead_58 : decode cX1_lead 58 = .ok (.iconst 0, 1) := by decide +kernel
theorem dX1_lead_59 : decode cX1_lead 59 = .ok (.goto 16, 3) := by decide +kernel
theorem dX1_lead_62 : decode cX1_lead 62 = .ok (.aload_n 0, 1) := by decide +kernel
theorem dX1_lead_63 : decode cX1_lead 63 = .ok (.getfield 27, 3) := by decide +kernel
theorem dX1_lead_66 : decode cX1_lead 66 = .ok (.iload_n 1, 1) := by decide +kernel
theorem dX1_lead_67 : decode cX1_lead 67 = .ok (.iaload, 1) := by decide +kernel
theorem dX1_lead_68 : decode cX1_lead 68 = .ok (.aload_n 0, 1) := by decide +kernel
theorem dX1_lead_69 : decode cX1_lead 69 = .ok (.getfield 27, 3) := by decide +kernel
theorem dX1_lead_72 : decode cX1_lead 72 = .ok (.iload_n 2, 1) := by decide +kernel
theorem dX1_lead_73 : decode cX1_lead 73 = .ok (.iaload, 1) := by decide +kernel
theorem dX1_lead_74 : decode cX1_lead 74 = .ok (.isub, 1) := by decide +kernel
theorem dX1_lead_75 : decode cX1_lead 75 = .ok (.ireturn, 1) := by decide +kernel
def J_X1_lead_53 (v1 : Int32) (v2 : Int32) (D : aD) : Option (Int32 × aD) :=
  if v2 ≠ (-1) then (aGd (aIn v1 5) (aGd (aIn v2 5) (some ((gI D 66 v1.toNatClampNeg) - (gI D 66 v2.toNatClampNeg), D)))) else (some (0, D))
def B_X1_lead_9 (v1 : Int32) (v2 : Int32) (v3 : Int32) (D : aD) : Option ((Int32 × Int32 × aD) ⊕ ((Int32 × aD))) :=
  if gI D 2 3 ≤ v3 then (some (.inr (v2, D))) else (if v3 = v1 then (aLet (v3 + 1) (fun v3_5 => some (.inl (v2, v3_5, D)))) else (if v2 = (-1) then (aLet (v3 + 1) (fun v3_6 => some (.inl (v3, v3_6, D)))) else (aGd (aIn v3 5) (aGd (aIn v2 5) (if gI D 66 v3.toNatClampNeg ≤ gI D 66 v2.toNatClampNeg then (aLet (v3 + 1) (fun v3_9 => some (.inl (v2, v3_9, D)))) else (aLet (v3 + 1) (fun v3_10 => some (.inl (v3, v3_10, D)))))))))
def J_X1_lead_9 (v1 : Int32) (v2 : Int32) (v3 : Int32) (D : aD) : Option (Int32 × aD) :=
  (aLp (fun s => B_X1_lead_9 v1 s.1 s.2.1 s.2.2) (v2, v3, D)).bind (fun r => J_X1_lead_53 v1 (r.1) r.2)
def f_X1_lead (D : aD) : Option (Int32 × aD) :=
  aBi (f_X1_first D) (fun y_1 D_2 => J_X1_lead_9 y_1 (-1) 0 D_2)
set_option maxRecDepth 100000 in
set_option maxHeartbeats 800000 in
theorem c_X1_lead {G : aG} (hG : gOK G) {shp : List aSh} (hS : aShp shp) {fr : Option Nat} {D : aD} {K : Int32 → aD → Prop} (h : Ok2 (f_X1_lead D) K) : AC G (aRm 2 0 0) M_X1_lead [.ref 60] fr shp D (aQi shp K) := by
  replace h := Ok2.ok h
  unfold f_X1_lead at h
  refine AC.of (al := [some (.ref 60), none, none, none]) (r := 3) (by decide) (Nat.le_of_ble_eq_true rfl) rfl ?_
  have hJ_53 : ∀ (v1 : Int32) (v2 : Int32) (D : aD), Ok (J_X1_lead_53 v1 v2 D) (fun r => K r.1 r.2) → AW G (aRm 2 0 0) M_X1_lead fr 0 0 53 [some (.ref 60), some (.int v1), some (.int v2), none] [] shp D (aQi shp K) := by
    intro v1 v2 D h
    unfold J_X1_lead_53 at h
    refine aw_iload_n (n := 54) (i := 2) dX1_lead_53 rfl rfl rfl ?_
    refine aw_iconst (n := 55) (v := (-1)) dX1_lead_54 rfl (by decide) ?_
    refine aw_icmp_ne (n := 58) (tgt := 62) dX1_lead_55 rfl (by decide) (fun c => ?_) (fun c => ?_)
    · replace h := Ok.ift h c
      refine aw_aload_n (n := 63) (i := 0) dX1_lead_62 rfl rfl rfl ?_
      refine aw_getR (n := 66) (j := 9) (r := 66) hG.1 fl_RX1_27 (sF_60 hS) rfl dX1_lead_63 rfl ?_
      refine aw_iload_n (n := 67) (i := 1) dX1_lead_66 rfl rfl rfl ?_
      obtain ⟨g_3, h⟩ := Ok.gd h
      refine aw_iaload (n := 68) hG.1 (sF_66 hS) (aIn_in g_3) dX1_lead_67 rfl ?_
      refine aw_aload_n (n := 69) (i := 0) dX1_lead_68 rfl rfl rfl ?_
      refine aw_getR (n := 72) (j := 9) (r := 66) hG.1 fl_RX1_27 (sF_60 hS) rfl dX1_lead_69 rfl ?_
      refine aw_iload_n (n := 73) (i := 2) dX1_lead_72 rfl rfl rfl ?_
      obtain ⟨g_4, h⟩ := Ok.gd h
      refine aw_iaload (n := 74) hG.1 (sF_66 hS) (aIn_in g_4) dX1_lead_73 rfl ?_
      refine aw_isub (n := 75) dX1_lead_74 rfl ?_
      exact aw_iret rfl (by decide) (by decide) dX1_lead_75 ⟨_, rfl, rfl, (Ok.dn h :)⟩
    · replace h := Ok.iffn h c
      refine aw_iconst (n := 59) (v := 0) dX1_lead_58 rfl (by decide) ?_
      refine aw_goto (tgt := 75) dX1_lead_59 (by decide) ?_
      exact aw_iret rfl (by decide) (by decide) dX1_lead_75 ⟨_, rfl, rfl, (Ok.dn h :)⟩
  have hJ_9 : ∀ (v1 : Int32) (v2 : Int32) (v3 : Int32) (D : aD), Ok (J_X1_lead_9 v1 v2 v3 D) (fun r => K r.1 r.2) → AW G (aRm 2 0 0) M_X1_lead fr 0 0 9 [some (.ref 60), some (.int v1), some (.int v2), some (.int v3)] [] shp D (aQi shp K) := by
    intro v1 v2 v3 D h
    unfold J_X1_lead_9 at h
    refine Ok.lp (P := fun s => AW G (aRm 2 0 0) M_X1_lead fr 0 0 9 [some (.ref 60), some (.int v1), some (.int (s.1)), some (.int (s.2.1))] [] shp s.2.2 (aQi shp K)) (fun s Kb9 hL9 hR9 h => ?_) (v2, v3, D) (Ok.bind h)
    obtain ⟨v2, v3, D⟩ := s
    replace h : Ok (B_X1_lead_9 v1 v2 v3 D) Kb9 := h
    unfold B_X1_lead_9 at h
    refine aw_iload_n (n := 10) (i := 3) dX1_lead_9 rfl rfl rfl ?_
    refine aw_aload_n (n := 11) (i := 0) dX1_lead_10 rfl rfl rfl ?_
    refine aw_getR (n := 14) (j := 0) (r := 2) hG.1 fl_RX1_33 (sF_60 hS) rfl dX1_lead_11 rfl ?_
    refine aw_getI (n := 17) (j := 3) hG.1 fl_RX1_127 (sF_2 hS) rfl dX1_lead_14 rfl ?_
    refine aw_icmp_ge (n := 20) (tgt := 53) dX1_lead_17 rfl (by decide) (fun c => ?_) (fun c => ?_)
    · replace h := Ok.ift h c
      exact aw_le' (hJ_53 v1 v2 D (hR9 (v2, D) (Ok.dn h :))) ⟨rfl, ⟨rfl, ⟨rfl, trivial⟩⟩⟩
    · replace h := Ok.iff h c
      refine aw_iload_n (n := 21) (i := 3) dX1_lead_20 rfl rfl rfl ?_
      refine aw_iload_n (n := 22) (i := 1) dX1_lead_21 rfl rfl rfl ?_
      refine aw_icmp_eq (n := 25) (tgt := 47) dX1_lead_22 rfl (by decide) (fun c => ?_) (fun c => ?_)
      · replace h := Ok.ift h c
        obtain ⟨v3_5, e_v3_5, h⟩ := Ok.let_ h
        refine aw_iinc (n := 50) (al' := [some (.ref 60), some (.int v1), some (.int v2), some (.int v3_5)]) dX1_lead_47 rfl rfl e_v3_5 (by decide) rfl ?_
        refine aw_goto (tgt := 9) dX1_lead_50 (by decide) ?_
        exact aw_le' (hL9 (v2, v3_5, D) (Ok.dn h :)) ⟨rfl, ⟨rfl, ⟨rfl, ⟨rfl, trivial⟩⟩⟩⟩
      · replace h := Ok.iff h c
        refine aw_iload_n (n := 26) (i := 2) dX1_lead_25 rfl rfl rfl ?_
        refine aw_iconst (n := 27) (v := (-1)) dX1_lead_26 rfl (by decide) ?_
        refine aw_icmp_eq (n := 30) (tgt := 45) dX1_lead_27 rfl (by decide) (fun c => ?_) (fun c => ?_)
        · replace h := Ok.ift h c
          refine aw_iload_n (n := 46) (i := 3) dX1_lead_45 rfl rfl rfl ?_
          refine aw_istore_n (n := 47) (i := 2) (al' := [some (.ref 60), some (.int v1), some (.int v3), some (.int v3)]) dX1_lead_46 rfl rfl rfl (by decide) rfl ?_
          obtain ⟨v3_6, e_v3_6, h⟩ := Ok.let_ h
          refine aw_iinc (n := 50) (al' := [some (.ref 60), some (.int v1), some (.int v3), some (.int v3_6)]) dX1_lead_47 rfl rfl e_v3_6 (by decide) rfl ?_
          refine aw_goto (tgt := 9) dX1_lead_50 (by decide) ?_
          exact aw_le' (hL9 (v3, v3_6, D) (Ok.dn h :)) ⟨rfl, ⟨rfl, ⟨rfl, ⟨rfl, trivial⟩⟩⟩⟩
        · replace h := Ok.iff h c
          refine aw_aload_n (n := 31) (i := 0) dX1_lead_30 rfl rfl rfl ?_
          refine aw_getR (n := 34) (j := 9) (r := 66) hG.1 fl_RX1_27 (sF_60 hS) rfl dX1_lead_31 rfl ?_
          refine aw_iload_n (n := 35) (i := 3) dX1_lead_34 rfl rfl rfl ?_
          obtain ⟨g_7, h⟩ := Ok.gd h
          refine aw_iaload (n := 36) hG.1 (sF_66 hS) (aIn_in g_7) dX1_lead_35 rfl ?_
          refine aw_aload_n (n := 37) (i := 0) dX1_lead_36 rfl rfl rfl ?_
          refine aw_getR (n := 40) (j := 9) (r := 66) hG.1 fl_RX1_27 (sF_60 hS) rfl dX1_lead_37 rfl ?_
          refine aw_iload_n (n := 41) (i := 2) dX1_lead_40 rfl rfl rfl ?_
          obtain ⟨g_8, h⟩ := Ok.gd h
          refine aw_iaload (n := 42) hG.1 (sF_66 hS) (aIn_in g_8) dX1_lead_41 rfl ?_
          refine aw_icmp_le (n := 45) (tgt := 47) dX1_lead_42 rfl (by decide) (fun c => ?_) (fun c => ?_)
          · replace h := Ok.ift h c
            obtain ⟨v3_9, e_v3_9, h⟩ := Ok.let_ h
            refine aw_iinc (n := 50) (al' := [some (.ref 60), some (.int v1), some (.int v2), some (.int v3_9)]) dX1_lead_47 rfl rfl e_v3_9 (by decide) rfl ?_
            refine aw_goto (tgt := 9) dX1_lead_50 (by decide) ?_
            exact aw_le' (hL9 (v2, v3_9, D) (Ok.dn h :)) ⟨rfl, ⟨rfl, ⟨rfl, ⟨rfl, trivial⟩⟩⟩⟩
          · replace h := Ok.iff h c
            refine aw_iload_n (n := 46) (i := 3) dX1_lead_45 rfl rfl rfl ?_
            refine aw_istore_n (n := 47) (i := 2) (al' := [some (.ref 60), some (.int v1), some (.int v3), some (.int v3)]) dX1_lead_46 rfl rfl rfl (by decide) rfl ?_
            obtain ⟨v3_10, e_v3_10, h⟩ := Ok.let_ h
            refine aw_iinc (n := 50) (al' := [some (.ref 60), some (.int v1), some (.int v3), some (.int v3_10)]) dX1_lead_47 rfl rfl e_v3_10 (by decide) rfl ?_
            refine aw_goto (tgt := 9) dX1_lead_50 (by decide) ?_
            exact aw_le' (hL9 (v3, v3_10, D) (Ok.dn h :)) ⟨rfl, ⟨rfl, ⟨rfl, ⟨rfl, trivial⟩⟩⟩⟩
  refine aw_aload_n (n := 1) (i := 0) dX1_lead_0 rfl rfl rfl ?_
  refine aw_cVi (M := M_X1_lead) (n := 4) (As := []) (rest := []) hG.1 lk_RX1_130 rfl rfl (sF_60 hS) (c_X1_first hG hS (h := Ok.bi h)) (by decide) (Nat.le_of_ble_eq_true rfl) (by decide) (by decide) dX1_lead_1 rfl (fun y_1 D_2 h => ?_)
  refine aw_istore_n (n := 5) (i := 1) (al' := [some (.ref 60), some (.int y_1), none, none]) dX1_lead_4 rfl rfl rfl (by decide) rfl ?_
  refine aw_iconst (n := 6) (v := (-1)) dX1_lead_5 rfl (by decide) ?_
  refine aw_istore_n (n := 7) (i := 2) (al' := [some (.ref 60), some (.int y_1), some (.int (-1)), none]) dX1_lead_6 rfl rfl rfl (by decide) rfl ?_
  refine aw_iconst (n := 8) (v := 0) dX1_lead_7 rfl (by decide) ?_
  refine aw_istore_n (n := 9) (i := 3) (al' := [some (.ref 60), some (.int y_1), some (.int (-1)), some (.int 0)]) dX1_lead_8 rfl rfl rfl (by decide) rfl ?_
  exact aw_le' (hJ_9 y_1 (-1) 0 D_2 h) ⟨rfl, ⟨rfl, ⟨rfl, ⟨rfl, trivial⟩⟩⟩⟩
theorem dX1_prizePart_0 : decode cX1_prizePart 0 = .ok (.lconst 0, 1) := by decide +kernel
theorem dX1_prizePart_1 : decode cX1_prizePart 1 = .ok (.lstore_n 3, 1) := by decide +kernel
theorem dX1_prizePart_2 : decode cX1_prizePart 2 = .ok (.iconst 0, 1) := by decide +kernel
theorem dX1_prizePart_3 : decode cX1_prizePart 3 = .ok (.istore 5, 2) := by decide +kernel
theorem dX1_prizePart_5 : decode cX1_prizePart 5 = .ok (.iload 5, 2) := by decide +kernel
theorem dX1_prizePart_7 : decode cX1_prizePart 7 = .ok (.aload_n 0, 1) := by decide +kernel
theorem dX1_prizePart_8 : decode cX1_prizePart 8 = .ok (.getfield 33, 3) := by decide +kernel
theorem dX1_prizePart_11 : decode cX1_prizePart 11 = .ok (.getfield 127, 3) := by decide +kernel
theorem dX1_prizePart_14 : decode cX1_prizePart 14 = .ok (.if_icmp .ge 24, 3) := by decide +kernel
theorem dX1_prizePart_17 : decode cX1_prizePart 17 = .ok (.lload_n 3, 1) := by decide +kernel
theorem dX1_prizePart_18 : decode cX1_prizePart 18 = .ok (.iconst 0, 1) := by decide +kernel
theorem dX1_prizePart_19 : decode cX1_prizePart 19 = .ok (.aload_n 0, 1) := by decide +kernel
theorem dX1_prizePart_20 : decode cX1_prizePart 20 = .ok (.getfield 27, 3) := by decide +kernel
theorem dX1_prizePart_23 : decode cX1_prizePart 23 = .ok (.iload 5, 2) := by decide +kernel
theorem dX1_prizePart_25 : decode cX1_prizePart 25 = .ok (.iaload, 1) := by decide +kernel
theorem dX1_prizePart_26 : decode cX1_prizePart 26 = .ok (.invokestatic 134, 3) := by decide +kernel
theorem dX1_prizePart_29 : decode cX1_prizePart 29 = .ok (.i2l, 1) := by decide +kernel
theorem dX1_prizePart_30 : decode cX1_prizePart 30 = .ok (.ladd, 1) := by decide +kernel
theorem dX1_prizePart_31 : decode cX1_prizePart 31 = .ok (.lstore_n 3, 1) := by decide +kernel
theorem dX1_prizePart_32 : decode cX1_prizePart 32 = .ok (.iinc 5 1, 3) := by decide +kernel
theorem dX1_prizePart_35 : decode cX1_prizePart 35 = .ok (.goto (-30), 3) := by decide +kernel
theorem dX1_prizePart_38 : decode cX1_prizePart 38 = .ok (.iload_n 2, 1) := by decide +kernel
theorem dX1_prizePart_39 : decode cX1_prizePart 39 = .ok (.istore 5, 2) := by decide +kernel
theorem dX1_prizePart_41 : decode cX1_prizePart 41 = .ok (.iconst 0, 1) := by decide +kernel
theorem dX1_prizePart_42 : decode cX1_prizePart 42 = .ok (.istore 6, 2) := by decide +kernel
theorem dX1_prizePart_44 : decode cX1_prizePart 44 = .ok (.iconst 0, 1) := by decide +kernel
theorem dX1_prizePart_45 : decode cX1_prizePart 45 = .ok (.istore 7, 2) := by decide +kernel
theorem dX1_prizePart_47 : decode cX1_prizePart 47 = .ok (.lload_n 3, 1) := by decide +kernel
theorem dX1_prizePart_48 : decode cX1_prizePart 48 = .ok (.lconst 0, 1) := by decide +kernel
theorem dX1_prizePart_49 : decode cX1_prizePart 49 = .ok (.lcmp, 1) := by decide +kernel
theorem dX1_prizePart_50 : decode cX1_prizePart 50 = .ok (.ifCond .le 58, 3) := by decide +kernel
theorem dX1_prizePart_53 : decode cX1_prizePart 53 = .ok (.iload 7, 2) := by decide +kernel
theorem dX1_prizePart_55 : decode cX1_prizePart 55 = .ok (.aload_n 0, 1) := by decide +kernel
theorem dX1_prizePart_56 : decode cX1_prizePart 56 = .ok (.getfield 33, 3) := by decide +kernel
theorem dX1_prizePart_59 : decode cX1_prizePart 59 = .ok (.getfield 127, 3) := by decide +kernel
theorem dX1_prizePart_62 : decode cX1_prizePart 62 = .ok (.if_icmp .ge 46, 3) := by decide +kernel
theorem dX1_prizePart_65 : decode cX1_prizePart 65 = .ok (.iload_n 2, 1) := by decide +kernel
theorem dX1_prizePart_66 : decode cX1_prizePart 66 = .ok (.i2l, 1) := by decide +kernel
theorem dX1_prizePart_67 : decode cX1_prizePart 67 = .ok (.iconst 0, 1) := by decide +kernel
theorem dX1_prizePart_68 : decode cX1_prizePart 68 = .ok (.aload_n 0, 1) := by decide +kernel
theorem dX1_prizePart_69 : decode cX1_prizePart 69 = .ok (.getfield 27, 3) := by decide +kernel
theorem dX1_prizePart_72 : decode cX1_prizePart 72 = .ok (.iload 7, 2) := by decide +kernel
theorem dX1_prizePart_74 : decode cX1_prizePart 74 = .ok (.iaload, 1) := by decide +kernel
theorem dX1_prizePart_75 : decode cX1_prizePart 75 = .ok (.invokestatic 134, 3) := by decide +kernel
theorem dX1_prizePart_78 : decode cX1_prizePart 78 = .ok (.i2l, 1) := by decide +kernel
theorem dX1_prizePart_79 : decode cX1_prizePart 79 = .ok (.lmul, 1) := by decide +kernel
theorem dX1_prizePart_80 : decode cX1_prizePart 80 = .ok (.lload_n 3, 1) := by decide +kernel
theorem dX1_prizePart_81 : decode cX1_prizePart 81 = .ok (.ldiv, 1) := by decide +kernel
theorem dX1_prizePart_82 : decode cX1_prizePart 82 = .ok (.l2i, 1) := by decide +kernel
theorem dX1_prizePart_83 : decode cX1_prizePart 83 = .ok (.istore 8, 2) := by decide +kernel
theorem dX1_prizePart_85 : decode cX1_prizePart 85 = .ok (.iload 5, 2) := by decide +kernel
theorem dX1_prizePart_87 : decode cX1_prizePart 87 = .ok (.iload 8, 2) := by decide +kernel
theorem dX1_prizePart_89 : decode cX1_prizePart 89 = .ok (.isub, 1) := by decide +kernel
theorem dX1_prizePart_90 : decode cX1_prizePart 90 = .ok (.istore 5, 2) := by decide +kernel
theorem dX1_prizePart_92 : decode cX1_prizePart 92 = .ok (.iload 7, 2) := by decide +kernel
theorem dX1_prizePart_94 : decode cX1_prizePart 94 = .ok (.iload_n 1, 1) := by decide +kernel
theorem dX1_prizePart_95 : decode cX1_prizePart 95 = .ok (.if_icmp .ne 7, 3) := by decide +kernel
theorem dX1_prizePart_98 : decode cX1_prizePart 98 = .ok (.iload 8, 2) := by decide +kernel
theorem dX1_prizePart_100 : decode cX1_prizePart 100 = .ok (.istore 6, 2) := by decide +kernel
theorem dX1_prizePart_102 : decode cX1_prizePart 102 = .ok (.iinc 7 1, 3) := by decide +kernel
theorem dX1_prizePart_105 : decode cX1_prizePart 105 = .ok (.goto (-58), 3) := by decide +kernel
theorem dX1_prizePart_108 : decode cX1_prizePart 108 = .ok (.iload_n 1, 1) := by decide +kernel
theorem dX1_prizePart_109 : decode cX1_prizePart 109 = .ok (.aload_n 0, 1) := by decide +kernel
theorem dX1_prizePart_110 : decode cX1_prizePart 110 = .ok (.invokevirtual 130, 3) := by decide +kernel
theorem dX1_prizePart_113 : decode cX1_prizePart 113 = .ok (.if_icmp .ne 11, 3) := by decide +kernel
theorem dX1_prizePart_116 : decode cX1_prizePart 116 = .ok (.iload 6, 2) := by decide +kernel
theorem dX1_prizePart_118 : decode cX1_prizePart 118 = .ok (.iload 5, 2) := by decide +kernel
theorem dX1_prizePart_120 : decode cX1_prizePart 120 = .ok (.iadd, 1) := by decide +kernel
theorem dX1_prizePart_121 : decode cX1_prizePart 121 = .ok (.goto 5, 3) := by decide +kernel
theorem dX1_prizePart_124 : decode cX1_prizePart 124 = .ok (.iload 6, 2) := by decide +kernel
theorem dX1_prizePart_126 : decode cX1_prizePart 126 = .ok (.ireturn, 1) := by decide +kernel
def J_X1_prizePart_108 (v1 : Int32) (v5 : Int32) (v6 : Int32) (D : aD) : Option (Int32 × aD) :=
  aBi (f_X1_first D) (fun y_1 D_2 => if v1 ≠ y_1 then (some (v6, D_2)) else (some (v6 + v5, D_2)))
def B_X1_prizePart_47 (v1 : Int32) (v2 : Int32) (v3 : Int64) (v5 : Int32) (v6 : Int32) (v7 : Int32) (D : aD) : Option ((Int32 × Int32 × Int32 × aD) ⊕ ((Int32 × Int32 × aD))) :=
  if lg_cmp v3 0 ≤ 0 then (some (.inr (v5, v6, D))) else (if gI D 2 3 ≤ v7 then (some (.inr (v5, v6, D))) else (aGd (aIn v7 5) (aGd (aNzL v3) (aLet ((((v2.toInt64) * ((if 0 < (gI D 66 v7.toNatClampNeg) then (gI D 66 v7.toNatClampNeg) else 0).toInt64)) / v3).toInt32) (fun v8_5 => aLet (v5 - v8_5) (fun v5_6 => if v7 ≠ v1 then (aLet (v7 + 1) (fun v7_7 => some (.inl (v5_6, v6, v7_7, D)))) else (aLet (v7 + 1) (fun v7_8 => some (.inl (v5_6, v8_5, v7_8, D))))))))))
def J_X1_prizePart_47 (v1 : Int32) (v2 : Int32) (v3 : Int64) (v5 : Int32) (v6 : Int32) (v7 : Int32) (D : aD) : Option (Int32 × aD) :=
  (aLp (fun s => B_X1_prizePart_47 v1 v2 v3 s.1 s.2.1 s.2.2.1 s.2.2.2) (v5, v6, v7, D)).bind (fun r => J_X1_prizePart_108 v1 (r.1) (r.2.1) r.2.2)
def J_X1_prizePart_38 (v1 : Int32) (v2 : Int32) (v3 : Int64) (D : aD) : Option (Int32 × aD) :=
  J_X1_prizePart_47 v1 v2 v3 v2 0 0 D
def B_X1_prizePart_5 (v1 : Int32) (v2 : Int32) (v3 : Int64) (v5 : Int32) (D : aD) : Option ((Int64 × Int32 × aD) ⊕ ((Int64 × aD))) :=
  if gI D 2 3 ≤ v5 then (some (.inr (v3, D))) else (aGd (aIn v5 5) (aLet (v3 + ((if 0 < (gI D 66 v5.toNatClampNeg) then (gI D 66 v5.toNatClampNeg) else 0).toInt64)) (fun v3_10 => aLet (v5 + 1) (fun v5_11 => some (.inl (v3_10, v5_11, D))))))
def J_X1_prizePart_5 (v1 : Int32) (v2 : Int32) (v3 : Int64) (v5 : Int32) (D : aD) : Option (Int32 × aD) :=
  (aLp (fun s => B_X1_prizePart_5 v1 v2 s.1 s.2.1 s.2.2) (v3, v5, D)).bind (fun r => J_X1_prizePart_38 v1 v2 (r.1) r.2)
def f_X1_prizePart (v1 : Int32) (v2 : Int32) (D : aD) : Option (Int32 × aD) :=
  J_X1_prizePart_5 v1 v2 0 0 D
set_option maxRecDepth 100000 in
set_option maxHeartbeats 800000 in
theorem c_X1_prizePart {G : aG} (hG : gOK G) {shp : List aSh} (hS : aShp shp) {fr : Option Nat} {v1 : Int32} {v2 : Int32} {D : aD} {K : Int32 → aD → Prop} (h : Ok2 (f_X1_prizePart v1 v2 D) K) : AC G (aRm 2 0 0) M_X1_prizePart [.ref 60, .int v1, .int v2] fr shp D (aQi shp K) := by
  replace h := Ok2.ok h
  unfold f_X1_prizePart at h
  refine AC.of (al := [some (.ref 60), some (.int v1), some (.int v2), none, none, none, none, none, none]) (r := 6) (by decide) (Nat.le_of_ble_eq_true rfl) rfl ?_
  have hJ_108 : ∀ (v1 : Int32) (v5 : Int32) (v6 : Int32) (D : aD), Ok (J_X1_prizePart_108 v1 v5 v6 D) (fun r => K r.1 r.2) → AW G (aRm 2 0 0) M_X1_prizePart fr 0 0 108 [some (.ref 60), some (.int v1), none, none, none, some (.int v5), some (.int v6), none, none] [] shp D (aQi shp K) := by
    intro v1 v5 v6 D h
    unfold J_X1_prizePart_108 at h
    refine aw_iload_n (n := 109) (i := 1) dX1_prizePart_108 rfl rfl rfl ?_
    refine aw_aload_n (n := 110) (i := 0) dX1_prizePart_109 rfl rfl rfl ?_
    refine aw_cVi (M := M_X1_prizePart) (n := 113) (As := []) (rest := [.int v1]) hG.1 lk_RX1_130 rfl rfl (sF_60 hS) (c_X1_first hG hS (h := Ok.bi h)) (by decide) (Nat.le_of_ble_eq_true rfl) (by decide) (by decide) dX1_prizePart_110 rfl (fun y_1 D_2 h => ?_)
    refine aw_icmp_ne (n := 116) (tgt := 124) dX1_prizePart_113 rfl (by decide) (fun c => ?_) (fun c => ?_)
    · replace h := Ok.ift h c
      refine aw_iload (n := 126) (i := 6) dX1_prizePart_124 rfl rfl ?_
      exact aw_iret rfl (by decide) (by decide) dX1_prizePart_126 ⟨_, rfl, rfl, (Ok.dn h :)⟩
    · replace h := Ok.iffn h c
      refine aw_iload (n := 118) (i := 6) dX1_prizePart_116 rfl rfl ?_
      refine aw_iload (n := 120) (i := 5) dX1_prizePart_118 rfl rfl ?_
      refine aw_iadd (n := 121) dX1_prizePart_120 rfl ?_
      refine aw_goto (tgt := 126) dX1_prizePart_121 (by decide) ?_
      exact aw_iret rfl (by decide) (by decide) dX1_prizePart_126 ⟨_, rfl, rfl, (Ok.dn h :)⟩
  have hJ_47 : ∀ (v1 : Int32) (v2 : Int32) (v3 : Int64) (v5 : Int32) (v6 : Int32) (v7 : Int32) (D : aD), Ok (J_X1_prizePart_47 v1 v2 v3 v5 v6 v7 D) (fun r => K r.1 r.2) → AW G (aRm 2 0 0) M_X1_prizePart fr 0 0 47 [some (.ref 60), some (.int v1), some (.int v2), some (.long v3), none, some (.int v5), some (.int v6), some (.int v7), none] [] shp D (aQi shp K) := by
    intro v1 v2 v3 v5 v6 v7 D h
    unfold J_X1_prizePart_47 at h
    refine Ok.lp (P := fun s => AW G (aRm 2 0 0) M_X1_prizePart fr 0 0 47 [some (.ref 60), some (.int v1), some (.int v2), some (.long v3), none, some (.int (s.1)), some (.int (s.2.1)), some (.int (s.2.2.1)), none] [] shp s.2.2.2 (aQi shp K)) (fun s Kb47 hL47 hR47 h => ?_) (v5, v6, v7, D) (Ok.bind h)
    obtain ⟨v5, v6, v7, D⟩ := s
    replace h : Ok (B_X1_prizePart_47 v1 v2 v3 v5 v6 v7 D) Kb47 := h
    unfold B_X1_prizePart_47 at h
    refine aw_lload_n (n := 48) (i := 3) dX1_prizePart_47 rfl rfl rfl ?_
    refine aw_lconst (n := 49) (v := 0) dX1_prizePart_48 rfl (by decide) ?_
    refine aw_lcmp (n := 50) dX1_prizePart_49 rfl ?_
    refine aw_if_le (n := 53) (tgt := 108) dX1_prizePart_50 rfl (by decide) (fun c => ?_) (fun c => ?_)
    · replace h := Ok.ift h c
      exact aw_le' (hJ_108 v1 v5 v6 D (hR47 (v5, v6, D) (Ok.dn h :))) ⟨rfl, ⟨rfl, ⟨rfl, ⟨rfl, trivial⟩⟩⟩⟩
    · replace h := Ok.iff h c
      refine aw_iload (n := 55) (i := 7) dX1_prizePart_53 rfl rfl ?_
      refine aw_aload_n (n := 56) (i := 0) dX1_prizePart_55 rfl rfl rfl ?_
      refine aw_getR (n := 59) (j := 0) (r := 2) hG.1 fl_RX1_33 (sF_60 hS) rfl dX1_prizePart_56 rfl ?_
      refine aw_getI (n := 62) (j := 3) hG.1 fl_RX1_127 (sF_2 hS) rfl dX1_prizePart_59 rfl ?_
      refine aw_icmp_ge (n := 65) (tgt := 108) dX1_prizePart_62 rfl (by decide) (fun c => ?_) (fun c => ?_)
      · replace h := Ok.ift h c
        exact aw_le' (hJ_108 v1 v5 v6 D (hR47 (v5, v6, D) (Ok.dn h :))) ⟨rfl, ⟨rfl, ⟨rfl, ⟨rfl, trivial⟩⟩⟩⟩
      · replace h := Ok.iff h c
        refine aw_iload_n (n := 66) (i := 2) dX1_prizePart_65 rfl rfl rfl ?_
        refine aw_i2l (n := 67) dX1_prizePart_66 rfl ?_
        refine aw_iconst (n := 68) (v := 0) dX1_prizePart_67 rfl (by decide) ?_
        refine aw_aload_n (n := 69) (i := 0) dX1_prizePart_68 rfl rfl rfl ?_
        refine aw_getR (n := 72) (j := 9) (r := 66) hG.1 fl_RX1_27 (sF_60 hS) rfl dX1_prizePart_69 rfl ?_
        refine aw_iload (n := 74) (i := 7) dX1_prizePart_72 rfl rfl ?_
        obtain ⟨g_3, h⟩ := Ok.gd h
        refine aw_iaload (n := 75) hG.1 (sF_66 hS) (aIn_in g_3) dX1_prizePart_74 rfl ?_
        refine aw_max (M := M_X1_prizePart) (n := 78) lm_RX1_134 mm_max.1 mm_max.2.1 mm_max.2.2 (by decide) (Nat.le_of_ble_eq_true rfl) (by decide) (by decide) dX1_prizePart_75 rfl ?_
        refine aw_i2l (n := 79) dX1_prizePart_78 rfl ?_
        refine aw_lmul (n := 80) dX1_prizePart_79 rfl ?_
        refine aw_lload_n (n := 81) (i := 3) dX1_prizePart_80 rfl rfl rfl ?_
        obtain ⟨g_4, h⟩ := Ok.gd h
        refine aw_ldiv (n := 82) dX1_prizePart_81 rfl (aNzL_ne g_4) ?_
        refine aw_l2i (n := 83) dX1_prizePart_82 rfl ?_
        obtain ⟨v8_5, e_v8_5, h⟩ := Ok.let_ h
        refine aw_istore (n := 85) (i := 8) (al' := [some (.ref 60), some (.int v1), some (.int v2), some (.long v3), none, some (.int v5), some (.int v6), some (.int v7), some (.int v8_5)]) dX1_prizePart_83 rfl e_v8_5 (by decide) rfl ?_
        refine aw_iload (n := 87) (i := 5) dX1_prizePart_85 rfl rfl ?_
        refine aw_iload (n := 89) (i := 8) dX1_prizePart_87 rfl rfl ?_
        refine aw_isub (n := 90) dX1_prizePart_89 rfl ?_
        obtain ⟨v5_6, e_v5_6, h⟩ := Ok.let_ h
        refine aw_istore (n := 92) (i := 5) (al' := [some (.ref 60), some (.int v1), some (.int v2), some (.long v3), none, some (.int v5_6), some (.int v6), some (.int v7), some (.int v8_5)]) dX1_prizePart_90 rfl e_v5_6 (by decide) rfl ?_
        refine aw_iload (n := 94) (i := 7) dX1_prizePart_92 rfl rfl ?_
        refine aw_iload_n (n := 95) (i := 1) dX1_prizePart_94 rfl rfl rfl ?_
        refine aw_icmp_ne (n := 98) (tgt := 102) dX1_prizePart_95 rfl (by decide) (fun c => ?_) (fun c => ?_)
        · replace h := Ok.ift h c
          obtain ⟨v7_7, e_v7_7, h⟩ := Ok.let_ h
          refine aw_iinc (n := 105) (al' := [some (.ref 60), some (.int v1), some (.int v2), some (.long v3), none, some (.int v5_6), some (.int v6), some (.int v7_7), some (.int v8_5)]) dX1_prizePart_102 rfl rfl e_v7_7 (by decide) rfl ?_
          refine aw_goto (tgt := 47) dX1_prizePart_105 (by decide) ?_
          exact aw_le' (hL47 (v5_6, v6, v7_7, D) (Ok.dn h :)) ⟨rfl, ⟨rfl, ⟨rfl, ⟨rfl, ⟨rfl, ⟨rfl, ⟨rfl, trivial⟩⟩⟩⟩⟩⟩⟩
        · replace h := Ok.iffn h c
          refine aw_iload (n := 100) (i := 8) dX1_prizePart_98 rfl rfl ?_
          refine aw_istore (n := 102) (i := 6) (al' := [some (.ref 60), some (.int v1), some (.int v2), some (.long v3), none, some (.int v5_6), some (.int v8_5), some (.int v7), some (.int v8_5)]) dX1_prizePart_100 rfl rfl (by decide) rfl ?_
          obtain ⟨v7_8, e_v7_8, h⟩ := Ok.let_ h
          refine aw_iinc (n := 105) (al' := [some (.ref 60), some (.int v1), some (.int v2), some (.long v3), none, some (.int v5_6), some (.int v8_5), some (.int v7_8), some (.int v8_5)]) dX1_prizePart_102 rfl rfl e_v7_8 (by decide) rfl ?_
          refine aw_goto (tgt := 47) dX1_prizePart_105 (by decide) ?_
          exact aw_le' (hL47 (v5_6, v8_5, v7_8, D) (Ok.dn h :)) ⟨rfl, ⟨rfl, ⟨rfl, ⟨rfl, ⟨rfl, ⟨rfl, ⟨rfl, trivial⟩⟩⟩⟩⟩⟩⟩
  have hJ_38 : ∀ (v1 : Int32) (v2 : Int32) (v3 : Int64) (D : aD), Ok (J_X1_prizePart_38 v1 v2 v3 D) (fun r => K r.1 r.2) → AW G (aRm 2 0 0) M_X1_prizePart fr 0 0 38 [some (.ref 60), some (.int v1), some (.int v2), some (.long v3), none, none, none, none, none] [] shp D (aQi shp K) := by
    intro v1 v2 v3 D h
    unfold J_X1_prizePart_38 at h
    refine aw_iload_n (n := 39) (i := 2) dX1_prizePart_38 rfl rfl rfl ?_
    refine aw_istore (n := 41) (i := 5) (al' := [some (.ref 60), some (.int v1), some (.int v2), some (.long v3), none, some (.int v2), none, none, none]) dX1_prizePart_39 rfl rfl (by decide) rfl ?_
    refine aw_iconst (n := 42) (v := 0) dX1_prizePart_41 rfl (by decide) ?_
    refine aw_istore (n := 44) (i := 6) (al' := [some (.ref 60), some (.int v1), some (.int v2), some (.long v3), none, some (.int v2), some (.int 0), none, none]) dX1_prizePart_42 rfl rfl (by decide) rfl ?_
    refine aw_iconst (n := 45) (v := 0) dX1_prizePart_44 rfl (by decide) ?_
    refine aw_istore (n := 47) (i := 7) (al' := [some (.ref 60), some (.int v1), some (.int v2), some (.long v3), none, some (.int v2), some (.int 0), some (.int 0), none]) dX1_prizePart_45 rfl rfl (by decide) rfl ?_
    exact aw_le' (hJ_47 v1 v2 v3 v2 0 0 D h) ⟨rfl, ⟨rfl, ⟨rfl, ⟨rfl, ⟨rfl, ⟨rfl, ⟨rfl, trivial⟩⟩⟩⟩⟩⟩⟩
  have hJ_5 : ∀ (v1 : Int32) (v2 : Int32) (v3 : Int64) (v5 : Int32) (D : aD), Ok (J_X1_prizePart_5 v1 v2 v3 v5 D) (fun r => K r.1 r.2) → AW G (aRm 2 0 0) M_X1_prizePart fr 0 0 5 [some (.ref 60), some (.int v1), some (.int v2), some (.long v3), none, some (.int v5), none, none, none] [] shp D (aQi shp K) := by
    intro v1 v2 v3 v5 D h
    unfold J_X1_prizePart_5 at h
    refine Ok.lp (P := fun s => AW G (aRm 2 0 0) M_X1_prizePart fr 0 0 5 [some (.ref 60), some (.int v1), some (.int v2), some (.long (s.1)), none, some (.int (s.2.1)), none, none, none] [] shp s.2.2 (aQi shp K)) (fun s Kb5 hL5 hR5 h => ?_) (v3, v5, D) (Ok.bind h)
    obtain ⟨v3, v5, D⟩ := s
    replace h : Ok (B_X1_prizePart_5 v1 v2 v3 v5 D) Kb5 := h
    unfold B_X1_prizePart_5 at h
    refine aw_iload (n := 7) (i := 5) dX1_prizePart_5 rfl rfl ?_
    refine aw_aload_n (n := 8) (i := 0) dX1_prizePart_7 rfl rfl rfl ?_
    refine aw_getR (n := 11) (j := 0) (r := 2) hG.1 fl_RX1_33 (sF_60 hS) rfl dX1_prizePart_8 rfl ?_
    refine aw_getI (n := 14) (j := 3) hG.1 fl_RX1_127 (sF_2 hS) rfl dX1_prizePart_11 rfl ?_
    refine aw_icmp_ge (n := 17) (tgt := 38) dX1_prizePart_14 rfl (by decide) (fun c => ?_) (fun c => ?_)
    · replace h := Ok.ift h c
      exact aw_le' (hJ_38 v1 v2 v3 D (hR5 (v3, D) (Ok.dn h :))) ⟨rfl, ⟨rfl, ⟨rfl, ⟨rfl, trivial⟩⟩⟩⟩
    · replace h := Ok.iff h c
      refine aw_lload_n (n := 18) (i := 3) dX1_prizePart_17 rfl rfl rfl ?_
      refine aw_iconst (n := 19) (v := 0) dX1_prizePart_18 rfl (by decide) ?_
      refine aw_aload_n (n := 20) (i := 0) dX1_prizePart_19 rfl rfl rfl ?_
      refine aw_getR (n := 23) (j := 9) (r := 66) hG.1 fl_RX1_27 (sF_60 hS) rfl dX1_prizePart_20 rfl ?_
      refine aw_iload (n := 25) (i := 5) dX1_prizePart_23 rfl rfl ?_
      obtain ⟨g_9, h⟩ := Ok.gd h
      refine aw_iaload (n := 26) hG.1 (sF_66 hS) (aIn_in g_9) dX1_prizePart_25 rfl ?_
      refine aw_max (M := M_X1_prizePart) (n := 29) lm_RX1_134 mm_max.1 mm_max.2.1 mm_max.2.2 (by decide) (Nat.le_of_ble_eq_true rfl) (by decide) (by decide) dX1_prizePart_26 rfl ?_
      refine aw_i2l (n := 30) dX1_prizePart_29 rfl ?_
      refine aw_ladd (n := 31) dX1_prizePart_30 rfl ?_
      obtain ⟨v3_10, e_v3_10, h⟩ := Ok.let_ h
      refine aw_lstore_n (n := 32) (i := 3) (al' := [some (.ref 60), some (.int v1), some (.int v2), some (.long v3_10), none, some (.int v5), none, none, none]) dX1_prizePart_31 rfl rfl e_v3_10 (by decide) rfl ?_
      obtain ⟨v5_11, e_v5_11, h⟩ := Ok.let_ h
      refine aw_iinc (n := 35) (al' := [some (.ref 60), some (.int v1), some (.int v2), some (.long v3_10), none, some (.int v5_11), none, none, none]) dX1_prizePart_32 rfl rfl e_v5_11 (by decide) rfl ?_
      refine aw_goto (tgt := 5) dX1_prizePart_35 (by decide) ?_
      exact aw_le' (hL5 (v3_10, v5_11, D) (Ok.dn h :)) ⟨rfl, ⟨rfl, ⟨rfl, ⟨rfl, ⟨rfl, trivial⟩⟩⟩⟩⟩
  refine aw_lconst (n := 1) (v := 0) dX1_prizePart_0 rfl (by decide) ?_
  refine aw_lstore_n (n := 2) (i := 3) (al' := [some (.ref 60), some (.int v1), some (.int v2), some (.long 0), none, none, none, none, none]) dX1_prizePart_1 rfl rfl rfl (by decide) rfl ?_
  refine aw_iconst (n := 3) (v := 0) dX1_prizePart_2 rfl (by decide) ?_
  refine aw_istore (n := 5) (i := 5) (al' := [some (.ref 60), some (.int v1), some (.int v2), some (.long 0), none, some (.int 0), none, none, none]) dX1_prizePart_3 rfl rfl (by decide) rfl ?_
  exact aw_le' (hJ_5 v1 v2 0 0 D h) ⟨rfl, ⟨rfl, ⟨rfl, ⟨rfl, ⟨rfl, trivial⟩⟩⟩⟩⟩
theorem dX1_carryAll_0 : decode cX1_carryAll 0 = .ok (.iconst 0, 1) := by decide +kernel
theorem dX1_carryAll_1 : decode cX1_carryAll 1 = .ok (.istore_n 3, 1) := by decide +kernel
theorem dX1_carryAll_2 : decode cX1_carryAll 2 = .ok (.iload_n 3, 1) := by decide +kernel
theorem dX1_carryAll_3 : decode cX1_carryAll 3 = .ok (.iconst 5, 1) := by decide +kernel
theorem dX1_carryAll_4 : decode cX1_carryAll 4 = .ok (.if_icmp .ge 32, 3) := by decide +kernel
theorem dX1_carryAll_7 : decode cX1_carryAll 7 = .ok (.iload_n 3, 1) := by decide +kernel
theorem dX1_carryAll_8 : decode cX1_carryAll 8 = .ok (.ifCond .eq 15, 3) := by decide +kernel
theorem dX1_carryAll_11 : decode cX1_carryAll 11 = .ok (.aload_n 0, 1) := by decide +kernel
theorem dX1_carryAll_12 : decode cX1_carryAll 12 = .ok (.getfield 33, 3) := by decide +kernel
theorem dX1_carryAll_15 : decode cX1_carryAll 15 = .ok (.getfield 83, 3) := by decide +kernel
theorem dX1_carryAll_18 : decode cX1_carryAll 18 = .ok (.iload_n 3, 1) := by decide +kernel
theorem dX1_carryAll_19 : decode cX1_carryAll 19 = .ok (.iaload, 1) := by decide +kernel
theorem dX1_carryAll_20 : decode cX1_carryAll 20 = .ok (.ifCond .le 10, 3) := by decide +kernel
theorem dX1_carryAll_23 : decode cX1_carryAll 23 = .ok (.aload_n 0, 1) := by decide +kernel
theorem dX1_carryAll_24 : decode cX1_carryAll 24 = .ok (.iload_n 1, 1) := by decide +kernel
theorem dX1_carryAll_25 : decode cX1_carryAll 25 = .ok (.iload_n 2, 1) := by decide +kernel
theorem dX1_carryAll_26 : decode cX1_carryAll 26 = .ok (.iload_n 3, 1) := by decide +kernel
theorem dX1_carryAll_27 : decode cX1_carryAll 27 = .ok (.invokevirtual 61, 3) := by decide +kernel
theorem dX1_carryAll_30 : decode cX1_carryAll 30 = .ok (.iinc 3 1, 3) := by decide +kernel
theorem dX1_carryAll_33 : decode cX1_carryAll 33 = .ok (.goto (-31), 3) := by decide +kernel
theorem dX1_carryAll_36 : decode cX1_carryAll 36 = .ok (.return_, 1) := by decide +kernel
def J_X1_carryAll_36 (D : aD) : Option (aD) :=
  some D
def J_X1_carryAll_23 (v1 : Int32) (v2 : Int32) (v3 : Int32) (D : aD) : Option ((Int32 × aD) ⊕ ((aD))) :=
  (f_X1_carry v1 v2 v3 D).bind (fun D_1 => aLet (v3 + 1) (fun v3_2 => some (.inl (v3_2, D_1))))
def B_X1_carryAll_2 (v1 : Int32) (v2 : Int32) (v3 : Int32) (D : aD) : Option ((Int32 × aD) ⊕ ((aD))) :=
  if 5 ≤ v3 then (some (.inr D)) else (if v3 = 0 then (J_X1_carryAll_23 v1 v2 v3 D) else (aGd (aIn v3 5) (if gI D 14 v3.toNatClampNeg ≤ 0 then (aLet (v3 + 1) (fun v3_4 => some (.inl (v3_4, D)))) else (J_X1_carryAll_23 v1 v2 v3 D))))
def J_X1_carryAll_2 (v1 : Int32) (v2 : Int32) (v3 : Int32) (D : aD) : Option (aD) :=
  (aLp (fun s => B_X1_carryAll_2 v1 v2 s.1 s.2) (v3, D)).bind (fun r => J_X1_carryAll_36 r)
def f_X1_carryAll (v1 : Int32) (v2 : Int32) (D : aD) : Option (aD) :=
  J_X1_carryAll_2 v1 v2 0 D
set_option maxRecDepth 100000 in
set_option maxHeartbeats 800000 in
theorem c_X1_carryAll {G : aG} (hG : gOK G) {shp : List aSh} (hS : aShp shp) {fr : Option Nat} {v1 : Int32} {v2 : Int32} {D : aD} {K : aD → Prop} (h : Ok (f_X1_carryAll v1 v2 D) K) : AC G (aRm 4 0 0) M_X1_carryAll [.ref 60, .int v1, .int v2] fr shp D (aQv shp K) := by
  unfold f_X1_carryAll at h
  refine AC.of (al := [some (.ref 60), some (.int v1), some (.int v2), none]) (r := 1) (by decide) (Nat.le_of_ble_eq_true rfl) rfl ?_
  have hJ_36 : ∀ (D : aD), Ok (J_X1_carryAll_36 D) K → AW G (aRm 4 0 0) M_X1_carryAll fr 0 0 36 [none, none, none, none] [] shp D (aQv shp K) := by
    intro D h
    unfold J_X1_carryAll_36 at h
    exact aw_vret rfl (by decide) (by decide) dX1_carryAll_36 ⟨rfl, rfl, (Ok.dn h :)⟩
  have hJ_2 : ∀ (v1 : Int32) (v2 : Int32) (v3 : Int32) (D : aD), Ok (J_X1_carryAll_2 v1 v2 v3 D) K → AW G (aRm 4 0 0) M_X1_carryAll fr 0 0 2 [some (.ref 60), some (.int v1), some (.int v2), some (.int v3)] [] shp D (aQv shp K) := by
    intro v1 v2 v3 D h
    unfold J_X1_carryAll_2 at h
    refine Ok.lp (P := fun s => AW G (aRm 4 0 0) M_X1_carryAll fr 0 0 2 [some (.ref 60), some (.int v1), some (.int v2), some (.int (s.1))] [] shp s.2 (aQv shp K)) (fun s Kb2 hL2 hR2 h => ?_) (v3, D) (Ok.bind h)
    obtain ⟨v3, D⟩ := s
    replace h : Ok (B_X1_carryAll_2 v1 v2 v3 D) Kb2 := h
    unfold B_X1_carryAll_2 at h
    have hJ_23 : ∀ (v3 : Int32) (D : aD), Ok (J_X1_carryAll_23 v1 v2 v3 D) Kb2 → AW G (aRm 4 0 0) M_X1_carryAll fr 0 0 23 [some (.ref 60), some (.int v1), some (.int v2), some (.int v3)] [] shp D (aQv shp K) := by
      intro v3 D h
      unfold J_X1_carryAll_23 at h
      refine aw_aload_n (n := 24) (i := 0) dX1_carryAll_23 rfl rfl rfl ?_
      refine aw_iload_n (n := 25) (i := 1) dX1_carryAll_24 rfl rfl rfl ?_
      refine aw_iload_n (n := 26) (i := 2) dX1_carryAll_25 rfl rfl rfl ?_
      refine aw_iload_n (n := 27) (i := 3) dX1_carryAll_26 rfl rfl rfl ?_
      refine aw_cVv (M := M_X1_carryAll) (n := 30) (As := [.int v1, .int v2, .int v3]) (rest := []) hG.1 lk_RX1_61 rfl rfl (sF_60 hS) (c_X1_carry hG hS (h := Ok.bind h)) (by decide) (Nat.le_of_ble_eq_true rfl) (by decide) (by decide) dX1_carryAll_27 rfl (fun D_1 h => ?_)
      obtain ⟨v3_2, e_v3_2, h⟩ := Ok.let_ h
      refine aw_iinc (n := 33) (al' := [some (.ref 60), some (.int v1), some (.int v2), some (.int v3_2)]) dX1_carryAll_30 rfl rfl e_v3_2 (by decide) rfl ?_
      refine aw_goto (tgt := 2) dX1_carryAll_33 (by decide) ?_
      exact aw_le' (hL2 (v3_2, D_1) (Ok.dn h :)) ⟨rfl, ⟨rfl, ⟨rfl, ⟨rfl, trivial⟩⟩⟩⟩
    refine aw_iload_n (n := 3) (i := 3) dX1_carryAll_2 rfl rfl rfl ?_
    refine aw_iconst (n := 4) (v := 5) dX1_carryAll_3 rfl (by decide) ?_
    refine aw_icmp_ge (n := 7) (tgt := 36) dX1_carryAll_4 rfl (by decide) (fun c => ?_) (fun c => ?_)
    · replace h := Ok.ift h c
      exact aw_le' (hJ_36 D (hR2 D (Ok.dn h :))) trivial
    · replace h := Ok.iff h c
      refine aw_iload_n (n := 8) (i := 3) dX1_carryAll_7 rfl rfl rfl ?_
      refine aw_if_eq (n := 11) (tgt := 23) dX1_carryAll_8 rfl (by decide) (fun c => ?_) (fun c => ?_)
      · replace h := Ok.ift h c
        exact aw_le' (hJ_23 v3 D h) ⟨rfl, ⟨rfl, ⟨rfl, ⟨rfl, trivial⟩⟩⟩⟩
      · replace h := Ok.iff h c
        refine aw_aload_n (n := 12) (i := 0) dX1_carryAll_11 rfl rfl rfl ?_
        refine aw_getR (n := 15) (j := 0) (r := 2) hG.1 fl_RX1_33 (sF_60 hS) rfl dX1_carryAll_12 rfl ?_
        refine aw_getR (n := 18) (j := 16) (r := 14) hG.1 fl_RX1_83 (sF_2 hS) rfl dX1_carryAll_15 rfl ?_
        refine aw_iload_n (n := 19) (i := 3) dX1_carryAll_18 rfl rfl rfl ?_
        obtain ⟨g_3, h⟩ := Ok.gd h
        refine aw_iaload (n := 20) hG.1 (sF_14 hS) (aIn_in g_3) dX1_carryAll_19 rfl ?_
        refine aw_if_le (n := 23) (tgt := 30) dX1_carryAll_20 rfl (by decide) (fun c => ?_) (fun c => ?_)
        · replace h := Ok.ift h c
          obtain ⟨v3_4, e_v3_4, h⟩ := Ok.let_ h
          refine aw_iinc (n := 33) (al' := [some (.ref 60), some (.int v1), some (.int v2), some (.int v3_4)]) dX1_carryAll_30 rfl rfl e_v3_4 (by decide) rfl ?_
          refine aw_goto (tgt := 2) dX1_carryAll_33 (by decide) ?_
          exact aw_le' (hL2 (v3_4, D) (Ok.dn h :)) ⟨rfl, ⟨rfl, ⟨rfl, ⟨rfl, trivial⟩⟩⟩⟩
        · replace h := Ok.iff h c
          exact aw_le' (hJ_23 v3 D h) ⟨rfl, ⟨rfl, ⟨rfl, ⟨rfl, trivial⟩⟩⟩⟩
  refine aw_iconst (n := 1) (v := 0) dX1_carryAll_0 rfl (by decide) ?_
  refine aw_istore_n (n := 2) (i := 3) (al' := [some (.ref 60), some (.int v1), some (.int v2), some (.int 0)]) dX1_carryAll_1 rfl rfl rfl (by decide) rfl ?_
  exact aw_le' (hJ_2 v1 v2 0 D h) ⟨rfl, ⟨rfl, ⟨rfl, ⟨rfl, trivial⟩⟩⟩⟩
theorem dX1_prepareAll_0 : decode cX1_prepareAll 0 = .ok (.aload_n 0, 1) := by decide +kernel
theorem dX1_prepareAll_1 : decode cX1_prepareAll 1 = .ok (.invokevirtual 45, 3) := by decide +kernel
theorem dX1_prepareAll_4 : decode cX1_prepareAll 4 = .ok (.iconst 0, 1) := by decide +kernel
theorem dX1_prepareAll_5 : decode cX1_prepareAll 5 = .ok (.istore_n 1, 1) := by decide +kernel
theorem dX1_prepareAll_6 : decode cX1_prepareAll 6 = .ok (.iload_n 1, 1) := by decide +kernel
theorem dX1_prepareAll_7 : decode cX1_prepareAll 7 = .ok (.aload_n 0, 1) := by decide +kernel
theorem dX1_prepareAll_8 : decode cX1_prepareAll 8 = .ok (.getfield 48, 3) := by decide +kernel
theorem dX1_prepareAll_11 : decode cX1_prepareAll 11 = .ok (.if_icmp .ge 23, 3) := by decide +kernel
theorem dX1_prepareAll_14 : decode cX1_prepareAll 14 = .ok (.aload_n 0, 1) := by decide +kernel
theorem dX1_prepareAll_15 : decode cX1_prepareAll 15 = .ok (.iload_n 1, 1) := by decide +kernel
theorem dX1_prepareAll_16 : decode cX1_prepareAll 16 = .ok (.aload_n 0, 1) := by decide +kernel
theorem dX1_prepareAll_17 : decode cX1_prepareAll 17 = .ok (.getfield 33, 3) := by decide +kernel
theorem dX1_prepareAll_20 : decode cX1_prepareAll 20 = .ok (.getfield 52, 3) := by decide +kernel
theorem dX1_prepareAll_23 : decode cX1_prepareAll 23 = .ok (.iload_n 1, 1) := by decide +kernel
theorem dX1_prepareAll_24 : decode cX1_prepareAll 24 = .ok (.iaload, 1) := by decide +kernel
theorem dX1_prepareAll_25 : decode cX1_prepareAll 25 = .ok (.invokevirtual 57, 3) := by decide +kernel
theorem dX1_prepareAll_28 : decode cX1_prepareAll 28 = .ok (.iinc 1 1, 3) := by decide +kernel
theorem dX1_prepareAll_31 : decode cX1_prepareAll 31 = .ok (.goto (-25), 3) := by decide +kernel
theorem dX1_prepareAll_34 : decode cX1_prepareAll 34 = .ok (.return_, 1) := by decide +kernel
def J_X1_prepareAll_34 (D : aD) : Option (aD) :=
  some D
def B_X1_prepareAll_6 (v1 : Int32) (D : aD) : Option ((Int32 × aD) ⊕ ((aD))) :=
  if gI D 60 3 ≤ v1 then (some (.inr D)) else (aGd (aIn v1 12) ((f_X1_carryAll v1 (gI D 9 v1.toNatClampNeg) D).bind (fun D_3 => aLet (v1 + 1) (fun v1_4 => some (.inl (v1_4, D_3))))))
def J_X1_prepareAll_6 (v1 : Int32) (D : aD) : Option (aD) :=
  (aLp (fun s => B_X1_prepareAll_6 s.1 s.2) (v1, D)).bind (fun r => J_X1_prepareAll_34 r)
def f_X1_prepareAll (D : aD) : Option (aD) :=
  (f_X1_copyPlants D).bind (fun D_1 => J_X1_prepareAll_6 0 D_1)
set_option maxRecDepth 100000 in
set_option maxHeartbeats 800000 in
theorem c_X1_prepareAll {G : aG} (hG : gOK G) {shp : List aSh} (hS : aShp shp) {fr : Option Nat} {D : aD} {K : aD → Prop} (h : Ok (f_X1_prepareAll D) K) : AC G (aRm 5 0 0) M_X1_prepareAll [.ref 60] fr shp D (aQv shp K) := by
  unfold f_X1_prepareAll at h
  refine AC.of (al := [some (.ref 60), none]) (r := 1) (by decide) (Nat.le_of_ble_eq_true rfl) rfl ?_
  have hJ_34 : ∀ (D : aD), Ok (J_X1_prepareAll_34 D) K → AW G (aRm 5 0 0) M_X1_prepareAll fr 0 0 34 [none, none] [] shp D (aQv shp K) := by
    intro D h
    unfold J_X1_prepareAll_34 at h
    exact aw_vret rfl (by decide) (by decide) dX1_prepareAll_34 ⟨rfl, rfl, (Ok.dn h :)⟩
  have hJ_6 : ∀ (v1 : Int32) (D : aD), Ok (J_X1_prepareAll_6 v1 D) K → AW G (aRm 5 0 0) M_X1_prepareAll fr 0 0 6 [some (.ref 60), some (.int v1)] [] shp D (aQv shp K) := by
    intro v1 D h
    unfold J_X1_prepareAll_6 at h
    refine Ok.lp (P := fun s => AW G (aRm 5 0 0) M_X1_prepareAll fr 0 0 6 [some (.ref 60), some (.int (s.1))] [] shp s.2 (aQv shp K)) (fun s Kb6 hL6 hR6 h => ?_) (v1, D) (Ok.bind h)
    obtain ⟨v1, D⟩ := s
    replace h : Ok (B_X1_prepareAll_6 v1 D) Kb6 := h
    unfold B_X1_prepareAll_6 at h
    refine aw_iload_n (n := 7) (i := 1) dX1_prepareAll_6 rfl rfl rfl ?_
    refine aw_aload_n (n := 8) (i := 0) dX1_prepareAll_7 rfl rfl rfl ?_
    refine aw_getI (n := 11) (j := 3) hG.1 fl_RX1_48 (sF_60 hS) rfl dX1_prepareAll_8 rfl ?_
    refine aw_icmp_ge (n := 14) (tgt := 34) dX1_prepareAll_11 rfl (by decide) (fun c => ?_) (fun c => ?_)
    · replace h := Ok.ift h c
      exact aw_le' (hJ_34 D (hR6 D (Ok.dn h :))) trivial
    · replace h := Ok.iff h c
      refine aw_aload_n (n := 15) (i := 0) dX1_prepareAll_14 rfl rfl rfl ?_
      refine aw_iload_n (n := 16) (i := 1) dX1_prepareAll_15 rfl rfl rfl ?_
      refine aw_aload_n (n := 17) (i := 0) dX1_prepareAll_16 rfl rfl rfl ?_
      refine aw_getR (n := 20) (j := 0) (r := 2) hG.1 fl_RX1_33 (sF_60 hS) rfl dX1_prepareAll_17 rfl ?_
      refine aw_getR (n := 23) (j := 11) (r := 9) hG.1 fl_RX1_52 (sF_2 hS) rfl dX1_prepareAll_20 rfl ?_
      refine aw_iload_n (n := 24) (i := 1) dX1_prepareAll_23 rfl rfl rfl ?_
      obtain ⟨g_2, h⟩ := Ok.gd h
      refine aw_iaload (n := 25) hG.1 (sF_9 hS) (aIn_in g_2) dX1_prepareAll_24 rfl ?_
      refine aw_cVv (M := M_X1_prepareAll) (n := 28) (As := [.int v1, .int (gI D 9 v1.toNatClampNeg)]) (rest := []) hG.1 lk_RX1_57 rfl rfl (sF_60 hS) (c_X1_carryAll hG hS (h := Ok.bind h)) (by decide) (Nat.le_of_ble_eq_true rfl) (by decide) (by decide) dX1_prepareAll_25 rfl (fun D_3 h => ?_)
      obtain ⟨v1_4, e_v1_4, h⟩ := Ok.let_ h
      refine aw_iinc (n := 31) (al' := [some (.ref 60), some (.int v1_4)]) dX1_prepareAll_28 rfl rfl e_v1_4 (by decide) rfl ?_
      refine aw_goto (tgt := 6) dX1_prepareAll_31 (by decide) ?_
      exact aw_le' (hL6 (v1_4, D_3) (Ok.dn h :)) ⟨rfl, ⟨rfl, trivial⟩⟩
  refine aw_aload_n (n := 1) (i := 0) dX1_prepareAll_0 rfl rfl rfl ?_
  refine aw_cVv (M := M_X1_prepareAll) (n := 4) (As := []) (rest := []) hG.1 lk_RX1_45 rfl rfl (sF_60 hS) (c_X1_copyPlants hG hS (h := Ok.bind h)) (by decide) (Nat.le_of_ble_eq_true rfl) (by decide) (by decide) dX1_prepareAll_1 rfl (fun D_1 h => ?_)
  refine aw_iconst (n := 5) (v := 0) dX1_prepareAll_4 rfl (by decide) ?_
  refine aw_istore_n (n := 6) (i := 1) (al' := [some (.ref 60), some (.int 0)]) dX1_prepareAll_5 rfl rfl rfl (by decide) rfl ?_
  exact aw_le' (hJ_6 0 D_1 h) ⟨rfl, ⟨rfl, trivial⟩⟩
theorem dX1_weightsWon_0 : decode cX1_weightsWon 0 = .ok (.iconst 0, 1) := by decide +kernel
theorem dX1_weightsWon_1 : decode cX1_weightsWon 1 = .ok (.istore_n 3, 1) := by decide +kernel
theorem dX1_weightsWon_2 : decode cX1_weightsWon 2 = .ok (.aload_n 0, 1) := by decide +kernel
theorem dX1_weightsWon_3 : decode cX1_weightsWon 3 = .ok (.getfield 33, 3) := by decide +kernel
theorem dX1_weightsWon_6 : decode cX1_weightsWon 6 = .ok (.invokevirtual 139, 3) := by decide +kernel
theorem dX1_weightsWon_9 : decode cX1_weightsWon 9 = .ok (.istore 4, 2) := by decide +kernel
theorem dX1_weightsWon_11 : decode cX1_weightsWon 11 = .ok (.iconst 0, 1) := by decide +kernel
theorem dX1_weightsWon_12 : decode cX1_weightsWon 12 = .ok (.istore 5, 2) := by decide +kernel
theorem dX1_weightsWon_14 : decode cX1_weightsWon 14 = .ok (.iload 5, 2) := by decide +kernel
theorem dX1_weightsWon_16 : decode cX1_weightsWon 16 = .ok (.iconst 5, 1) := by decide +kernel
theorem dX1_weightsWon_17 : decode cX1_weightsWon 17 = .ok (.if_icmp .ge 64, 3) := by decide +kernel
theorem dX1_weightsWon_20 : decode cX1_weightsWon 20 = .ok (.iload_n 3, 1) := by decide +kernel
theorem dX1_weightsWon_21 : decode cX1_weightsWon 21 = .ok (.iload 4, 2) := by decide +kernel
theorem dX1_weightsWon_23 : decode cX1_weightsWon 23 = .ok (.iadd, 1) := by decide +kernel
theorem dX1_weightsWon_24 : decode cX1_weightsWon 24 = .ok (.iload_n 2, 1) := by decide +kernel
theorem dX1_weightsWon_25 : decode cX1_weightsWon 25 = .ok (.if_icmp .le 56, 3) := by decide +kernel
theorem dX1_weightsWon_28 : decode cX1_weightsWon 28 = .ok (.aload_n 0, 1) := by decide +kernel
theorem dX1_weightsWon_29 : decode cX1_weightsWon 29 = .ok (.getfield 33, 3) := by decide +kernel
theorem dX1_weightsWon_32 : decode cX1_weightsWon 32 = .ok (.getfield 83, 3) := by decide +kernel
theorem dX1_weightsWon_35 : decode cX1_weightsWon 35 = .ok (.iload 5, 2) := by decide +kernel
theorem dX1_weightsWon_37 : decode cX1_weightsWon 37 = .ok (.iaload, 1) := by decide +kernel
theorem dX1_weightsWon_38 : decode cX1_weightsWon 38 = .ok (.istore 6, 2) := by decide +kernel
theorem dX1_weightsWon_40 : decode cX1_weightsWon 40 = .ok (.iload 4, 2) := by decide +kernel
theorem dX1_weightsWon_42 : decode cX1_weightsWon 42 = .ok (.iload 6, 2) := by decide +kernel
theorem dX1_weightsWon_44 : decode cX1_weightsWon 44 = .ok (.isub, 1) := by decide +kernel
theorem dX1_weightsWon_45 : decode cX1_weightsWon 45 = .ok (.istore 4, 2) := by decide +kernel
theorem dX1_weightsWon_47 : decode cX1_weightsWon 47 = .ok (.iload 6, 2) := by decide +kernel
theorem dX1_weightsWon_49 : decode cX1_weightsWon 49 = .ok (.ifCond .le 26, 3) := by decide +kernel
theorem dX1_weightsWon_52 : decode cX1_weightsWon 52 = .ok (.aload_n 0, 1) := by decide +kernel
theorem dX1_weightsWon_53 : decode cX1_weightsWon 53 = .ok (.iload 5, 2) := by decide +kernel
theorem dX1_weightsWon_55 : decode cX1_weightsWon 55 = .ok (.invokevirtual 142, 3) := by decide +kernel
theorem dX1_weightsWon_58 : decode cX1_weightsWon 58 = .ok (.iload_n 3, 1) := by decide +kernel
theorem dX1_weightsWon_59 : decode cX1_weightsWon 59 = .ok (.aload_n 0, 1) := by decide +kernel
theorem dX1_weightsWon_60 : decode cX1_weightsWon 60 = .ok (.invokevirtual 130, 3) := by decide +kernel
theorem dX1_weightsWon_63 : decode cX1_weightsWon 63 = .ok (.iload_n 1, 1) := by decide +kernel
theorem dX1_weightsWon_64 : decode cX1_weightsWon 64 = .ok (.if_icmp .ne 8, 3) := by decide +kernel
theorem dX1_weightsWon_67 : decode cX1_weightsWon 67 = .ok (.iload 6, 2) := by decide +kernel
theorem dX1_weightsWon_69 : decode cX1_weightsWon 69 = .ok (.goto 4, 3) := by decide +kernel
theorem dX1_weightsWon_72 : decode cX1_weightsWon 72 = .ok (.iconst 0, 1) := by decide +kernel
theorem dX1_weightsWon_73 : decode cX1_weightsWon 73 = .ok (.iadd, 1) := by decide +kernel
theorem dX1_weightsWon_74 : decode cX1_weightsWon 74 = .ok (.istore_n 3, 1) := by decide +kernel
theorem dX1_weightsWon_75 : decode cX1_weightsWon 75 = .ok (.iinc 5 1, 3) := by decide +kernel
theorem dX1_weightsWon_78 : decode cX1_weightsWon 78 = .ok (.goto (-64), 3) := by decide +kernel
theorem dX1_weightsWon_81 : decode cX1_weightsWon 81 = .ok (.iload_n 3, 1) := by decide +kernel
theorem dX1_weightsWon_82 : decode cX1_weightsWon 82 = .ok (.ireturn, 1) := by decide +kernel
def J_X1_weightsWon_81 (v3 : Int32) (D : aD) : Option (Int32 × aD) :=
  some (v3, D)
def B_X1_weightsWon_14 (v1 : Int32) (v2 : Int32) (v3 : Int32) (v4 : Int32) (v5 : Int32) (D : aD) : Option ((Int32 × Int32 × Int32 × aD) ⊕ ((Int32 × aD))) :=
  if 5 ≤ v5 then (some (.inr (v3, D))) else (if v3 + v4 ≤ v2 then (some (.inr (v3, D))) else (aGd (aIn v5 5) (aLet (gI D 14 v5.toNatClampNeg) (fun v6_4 => aLet (v4 - v6_4) (fun v4_5 => if v6_4 ≤ 0 then (aLet (v5 + 1) (fun v5_6 => some (.inl (v3, v4_5, v5_6, D)))) else ((f_X1_addUp v5 D).bind (fun D_7 => aBi (f_X1_first D_7) (fun y_8 D_9 => if y_8 ≠ v1 then (aLet (v3 + 0) (fun v3_10 => aLet (v5 + 1) (fun v5_11 => some (.inl (v3_10, v4_5, v5_11, D_9))))) else (aLet (v3 + v6_4) (fun v3_12 => aLet (v5 + 1) (fun v5_13 => some (.inl (v3_12, v4_5, v5_13, D_9)))))))))))))
def J_X1_weightsWon_14 (v1 : Int32) (v2 : Int32) (v3 : Int32) (v4 : Int32) (v5 : Int32) (D : aD) : Option (Int32 × aD) :=
  (aLp (fun s => B_X1_weightsWon_14 v1 v2 s.1 s.2.1 s.2.2.1 s.2.2.2) (v3, v4, v5, D)).bind (fun r => J_X1_weightsWon_81 (r.1) r.2)
def f_X1_weightsWon (v1 : Int32) (v2 : Int32) (D : aD) : Option (Int32 × aD) :=
  aBi (f_X6_allWeights D) (fun y_1 D_2 => J_X1_weightsWon_14 v1 v2 0 y_1 0 D_2)
set_option maxRecDepth 100000 in
set_option maxHeartbeats 800000 in
theorem c_X1_weightsWon {G : aG} (hG : gOK G) {shp : List aSh} (hS : aShp shp) {fr : Option Nat} {v1 : Int32} {v2 : Int32} {D : aD} {K : Int32 → aD → Prop} (h : Ok2 (f_X1_weightsWon v1 v2 D) K) : AC G (aRm 4 0 0) M_X1_weightsWon [.ref 60, .int v1, .int v2] fr shp D (aQi shp K) := by
  replace h := Ok2.ok h
  unfold f_X1_weightsWon at h
  refine AC.of (al := [some (.ref 60), some (.int v1), some (.int v2), none, none, none, none]) (r := 4) (by decide) (Nat.le_of_ble_eq_true rfl) rfl ?_
  have hJ_81 : ∀ (v3 : Int32) (D : aD), Ok (J_X1_weightsWon_81 v3 D) (fun r => K r.1 r.2) → AW G (aRm 4 0 0) M_X1_weightsWon fr 0 0 81 [none, none, none, some (.int v3), none, none, none] [] shp D (aQi shp K) := by
    intro v3 D h
    unfold J_X1_weightsWon_81 at h
    refine aw_iload_n (n := 82) (i := 3) dX1_weightsWon_81 rfl rfl rfl ?_
    exact aw_iret rfl (by decide) (by decide) dX1_weightsWon_82 ⟨_, rfl, rfl, (Ok.dn h :)⟩
  have hJ_14 : ∀ (v1 : Int32) (v2 : Int32) (v3 : Int32) (v4 : Int32) (v5 : Int32) (D : aD), Ok (J_X1_weightsWon_14 v1 v2 v3 v4 v5 D) (fun r => K r.1 r.2) → AW G (aRm 4 0 0) M_X1_weightsWon fr 0 0 14 [some (.ref 60), some (.int v1), some (.int v2), some (.int v3), some (.int v4), some (.int v5), none] [] shp D (aQi shp K) := by
    intro v1 v2 v3 v4 v5 D h
    unfold J_X1_weightsWon_14 at h
    refine Ok.lp (P := fun s => AW G (aRm 4 0 0) M_X1_weightsWon fr 0 0 14 [some (.ref 60), some (.int v1), some (.int v2), some (.int (s.1)), some (.int (s.2.1)), some (.int (s.2.2.1)), none] [] shp s.2.2.2 (aQi shp K)) (fun s Kb14 hL14 hR14 h => ?_) (v3, v4, v5, D) (Ok.bind h)
    obtain ⟨v3, v4, v5, D⟩ := s
    replace h : Ok (B_X1_weightsWon_14 v1 v2 v3 v4 v5 D) Kb14 := h
    unfold B_X1_weightsWon_14 at h
    refine aw_iload (n := 16) (i := 5) dX1_weightsWon_14 rfl rfl ?_
    refine aw_iconst (n := 17) (v := 5) dX1_weightsWon_16 rfl (by decide) ?_
    refine aw_icmp_ge (n := 20) (tgt := 81) dX1_weightsWon_17 rfl (by decide) (fun c => ?_) (fun c => ?_)
    · replace h := Ok.ift h c
      exact aw_le' (hJ_81 v3 D (hR14 (v3, D) (Ok.dn h :))) ⟨rfl, trivial⟩
    · replace h := Ok.iff h c
      refine aw_iload_n (n := 21) (i := 3) dX1_weightsWon_20 rfl rfl rfl ?_
      refine aw_iload (n := 23) (i := 4) dX1_weightsWon_21 rfl rfl ?_
      refine aw_iadd (n := 24) dX1_weightsWon_23 rfl ?_
      refine aw_iload_n (n := 25) (i := 2) dX1_weightsWon_24 rfl rfl rfl ?_
      refine aw_icmp_le (n := 28) (tgt := 81) dX1_weightsWon_25 rfl (by decide) (fun c => ?_) (fun c => ?_)
      · replace h := Ok.ift h c
        exact aw_le' (hJ_81 v3 D (hR14 (v3, D) (Ok.dn h :))) ⟨rfl, trivial⟩
      · replace h := Ok.iff h c
        refine aw_aload_n (n := 29) (i := 0) dX1_weightsWon_28 rfl rfl rfl ?_
        refine aw_getR (n := 32) (j := 0) (r := 2) hG.1 fl_RX1_33 (sF_60 hS) rfl dX1_weightsWon_29 rfl ?_
        refine aw_getR (n := 35) (j := 16) (r := 14) hG.1 fl_RX1_83 (sF_2 hS) rfl dX1_weightsWon_32 rfl ?_
        refine aw_iload (n := 37) (i := 5) dX1_weightsWon_35 rfl rfl ?_
        obtain ⟨g_3, h⟩ := Ok.gd h
        refine aw_iaload (n := 38) hG.1 (sF_14 hS) (aIn_in g_3) dX1_weightsWon_37 rfl ?_
        obtain ⟨v6_4, e_v6_4, h⟩ := Ok.let_ h
        refine aw_istore (n := 40) (i := 6) (al' := [some (.ref 60), some (.int v1), some (.int v2), some (.int v3), some (.int v4), some (.int v5), some (.int v6_4)]) dX1_weightsWon_38 rfl e_v6_4 (by decide) rfl ?_
        refine aw_iload (n := 42) (i := 4) dX1_weightsWon_40 rfl rfl ?_
        refine aw_iload (n := 44) (i := 6) dX1_weightsWon_42 rfl rfl ?_
        refine aw_isub (n := 45) dX1_weightsWon_44 rfl ?_
        obtain ⟨v4_5, e_v4_5, h⟩ := Ok.let_ h
        refine aw_istore (n := 47) (i := 4) (al' := [some (.ref 60), some (.int v1), some (.int v2), some (.int v3), some (.int v4_5), some (.int v5), some (.int v6_4)]) dX1_weightsWon_45 rfl e_v4_5 (by decide) rfl ?_
        refine aw_iload (n := 49) (i := 6) dX1_weightsWon_47 rfl rfl ?_
        refine aw_if_le (n := 52) (tgt := 75) dX1_weightsWon_49 rfl (by decide) (fun c => ?_) (fun c => ?_)
        · replace h := Ok.ift h c
          obtain ⟨v5_6, e_v5_6, h⟩ := Ok.let_ h
          refine aw_iinc (n := 78) (al' := [some (.ref 60), some (.int v1), some (.int v2), some (.int v3), some (.int v4_5), some (.int v5_6), some (.int v6_4)]) dX1_weightsWon_75 rfl rfl e_v5_6 (by decide) rfl ?_
          refine aw_goto (tgt := 14) dX1_weightsWon_78 (by decide) ?_
          exact aw_le' (hL14 (v3, v4_5, v5_6, D) (Ok.dn h :)) ⟨rfl, ⟨rfl, ⟨rfl, ⟨rfl, ⟨rfl, ⟨rfl, trivial⟩⟩⟩⟩⟩⟩
        · replace h := Ok.iff h c
          refine aw_aload_n (n := 53) (i := 0) dX1_weightsWon_52 rfl rfl rfl ?_
          refine aw_iload (n := 55) (i := 5) dX1_weightsWon_53 rfl rfl ?_
          refine aw_cVv (M := M_X1_weightsWon) (n := 58) (As := [.int v5]) (rest := []) hG.1 lk_RX1_142 rfl rfl (sF_60 hS) (c_X1_addUp hG hS (h := Ok.bind h)) (by decide) (Nat.le_of_ble_eq_true rfl) (by decide) (by decide) dX1_weightsWon_55 rfl (fun D_7 h => ?_)
          refine aw_iload_n (n := 59) (i := 3) dX1_weightsWon_58 rfl rfl rfl ?_
          refine aw_aload_n (n := 60) (i := 0) dX1_weightsWon_59 rfl rfl rfl ?_
          refine aw_cVi (M := M_X1_weightsWon) (n := 63) (As := []) (rest := [.int v3]) hG.1 lk_RX1_130 rfl rfl (sF_60 hS) (c_X1_first hG hS (h := Ok.bi h)) (by decide) (Nat.le_of_ble_eq_true rfl) (by decide) (by decide) dX1_weightsWon_60 rfl (fun y_8 D_9 h => ?_)
          refine aw_iload_n (n := 64) (i := 1) dX1_weightsWon_63 rfl rfl rfl ?_
          refine aw_icmp_ne (n := 67) (tgt := 72) dX1_weightsWon_64 rfl (by decide) (fun c => ?_) (fun c => ?_)
          · replace h := Ok.ift h c
            refine aw_iconst (n := 73) (v := 0) dX1_weightsWon_72 rfl (by decide) ?_
            refine aw_iadd (n := 74) dX1_weightsWon_73 rfl ?_
            obtain ⟨v3_10, e_v3_10, h⟩ := Ok.let_ h
            refine aw_istore_n (n := 75) (i := 3) (al' := [some (.ref 60), some (.int v1), some (.int v2), some (.int v3_10), some (.int v4_5), some (.int v5), some (.int v6_4)]) dX1_weightsWon_74 rfl rfl e_v3_10 (by decide) rfl ?_
            obtain ⟨v5_11, e_v5_11, h⟩ := Ok.let_ h
            refine aw_iinc (n := 78) (al' := [some (.ref 60), some (.int v1), some (.int v2), some (.int v3_10), some (.int v4_5), some (.int v5_11), some (.int v6_4)]) dX1_weightsWon_75 rfl rfl e_v5_11 (by decide) rfl ?_
            refine aw_goto (tgt := 14) dX1_weightsWon_78 (by decide) ?_
            exact aw_le' (hL14 (v3_10, v4_5, v5_11, D_9) (Ok.dn h :)) ⟨rfl, ⟨rfl, ⟨rfl, ⟨rfl, ⟨rfl, ⟨rfl, trivial⟩⟩⟩⟩⟩⟩
          · replace h := Ok.iffn h c
            refine aw_iload (n := 69) (i := 6) dX1_weightsWon_67 rfl rfl ?_
            refine aw_goto (tgt := 73) dX1_weightsWon_69 (by decide) ?_
            refine aw_iadd (n := 74) dX1_weightsWon_73 rfl ?_
            obtain ⟨v3_12, e_v3_12, h⟩ := Ok.let_ h
            refine aw_istore_n (n := 75) (i := 3) (al' := [some (.ref 60), some (.int v1), some (.int v2), some (.int v3_12), some (.int v4_5), some (.int v5), some (.int v6_4)]) dX1_weightsWon_74 rfl rfl e_v3_12 (by decide) rfl ?_
            obtain ⟨v5_13, e_v5_13, h⟩ := Ok.let_ h
            refine aw_iinc (n := 78) (al' := [some (.ref 60), some (.int v1), some (.int v2), some (.int v3_12), some (.int v4_5), some (.int v5_13), some (.int v6_4)]) dX1_weightsWon_75 rfl rfl e_v5_13 (by decide) rfl ?_
            refine aw_goto (tgt := 14) dX1_weightsWon_78 (by decide) ?_
            exact aw_le' (hL14 (v3_12, v4_5, v5_13, D_9) (Ok.dn h :)) ⟨rfl, ⟨rfl, ⟨rfl, ⟨rfl, ⟨rfl, ⟨rfl, trivial⟩⟩⟩⟩⟩⟩
  refine aw_iconst (n := 1) (v := 0) dX1_weightsWon_0 rfl (by decide) ?_
  refine aw_istore_n (n := 2) (i := 3) (al' := [some (.ref 60), some (.int v1), some (.int v2), some (.int 0), none, none, none]) dX1_weightsWon_1 rfl rfl rfl (by decide) rfl ?_
  refine aw_aload_n (n := 3) (i := 0) dX1_weightsWon_2 rfl rfl rfl ?_
  refine aw_getR (n := 6) (j := 0) (r := 2) hG.1 fl_RX1_33 (sF_60 hS) rfl dX1_weightsWon_3 rfl ?_
  refine aw_cVi (M := M_X1_weightsWon) (n := 9) (As := []) (rest := []) hG.1 lk_RX1_139 rfl rfl (sF_2 hS) (c_X6_allWeights hG hS (h := Ok.bi h)) (by decide) (Nat.le_of_ble_eq_true rfl) (by decide) (by decide) dX1_weightsWon_6 rfl (fun y_1 D_2 h => ?_)
  refine aw_istore (n := 11) (i := 4) (al' := [some (.ref 60), some (.int v1), some (.int v2), some (.int 0), some (.int y_1), none, none]) dX1_weightsWon_9 rfl rfl (by decide) rfl ?_
  refine aw_iconst (n := 12) (v := 0) dX1_weightsWon_11 rfl (by decide) ?_
  refine aw_istore (n := 14) (i := 5) (al' := [some (.ref 60), some (.int v1), some (.int v2), some (.int 0), some (.int y_1), some (.int 0), none]) dX1_weightsWon_12 rfl rfl (by decide) rfl ?_
  exact aw_le' (hJ_14 v1 v2 0 y_1 0 D_2 h) ⟨rfl, ⟨rfl, ⟨rfl, ⟨rfl, ⟨rfl, ⟨rfl, trivial⟩⟩⟩⟩⟩⟩
theorem dX1_everSmells_0 : decode cX1_everSmells 0 = .ok (.iconst 0, 1) := by decide +kernel
theorem dX1_everSmells_1 : decode cX1_everSmells 1 = .ok (.istore_n 2, 1) := by decide +kernel
theorem dX1_everSmells_2 : decode cX1_everSmells 2 = .ok (.iload_n 2, 1) := by decide +kernel
theorem dX1_everSmells_3 : decode cX1_everSmells 3 = .ok (.iconst 5, 1) := by decide +kernel
theorem dX1_everSmells_4 : decode cX1_everSmells 4 = .ok (.if_icmp .ge 71, 3) := by decide +kernel
theorem dX1_everSmells_7 : decode cX1_everSmells 7 = .ok (.iconst 0, 1) := by decide +kernel
theorem dX1_everSmells_8 : decode cX1_everSmells 8 = .ok (.istore_n 3, 1) := by decide +kernel
theorem dX1_everSmells_9 : decode cX1_everSmells 9 = .ok (.aload_n 0, 1) := by decide +kernel
theorem dX1_everSmells_10 : decode cX1_everSmells 10 = .ok (.getfield 33, 3) := by decide +kernel
theorem dX1_everSmells_13 : decode cX1_everSmells 13 = .ok (.getfield 83, 3) := by decide +kernel
theorem dX1_everSmells_16 : decode cX1_everSmells 16 = .ok (.iload_n 2, 1) := by decide +kernel
theorem dX1_everSmells_17 : decode cX1_everSmells 17 = .ok (.iaload, 1) := by decide +kernel
theorem dX1_everSmells_18 : decode cX1_everSmells 18 = .ok (.ifCond .le 51, 3) := by decide +kernel
theorem dX1_everSmells_21 : decode cX1_everSmells 21 = .ok (.iload_n 3, 1) := by decide +kernel
theorem dX1_everSmells_22 : decode cX1_everSmells 22 = .ok (.aload_n 0, 1) := by decide +kernel
theorem dX1_everSmells_23 : decode cX1_everSmells 23 = .ok (.getfield 33, 3) := by decide +kernel
theorem dX1_everSmells_26 : decode cX1_everSmells 26 = .ok (.getfield 86, 3) := by decide +kernel
theorem dX1_everSmells_29 : decode cX1_everSmells 29 = .ok (.if_icmp .ge 40, 3) := by decide +kernel
theorem dX1_everSmells_32 : decode cX1_everSmells 32 = .ok (.iload_n 2, 1) := by decide +kernel
theorem dX1_everSmells_33 : decode cX1_everSmells 33 = .ok (.iload_n 3, 1) := by decide +kernel
theorem dX1_everSmells_34 : decode cX1_everSmells 34 = .ok (.invokestatic 89, 3) := by decide +kernel
theorem dX1_everSmells_37 : decode cX1_everSmells 37 = .ok (.iload_n 1, 1) := by decide +kernel
theorem dX1_everSmells_38 : decode cX1_everSmells 38 = .ok (.iadd, 1) := by decide +kernel
theorem dX1_everSmells_39 : decode cX1_everSmells 39 = .ok (.istore 4, 2) := by decide +kernel
theorem dX1_everSmells_41 : decode cX1_everSmells 41 = .ok (.aload_n 0, 1) := by decide +kernel
theorem dX1_everSmells_42 : decode cX1_everSmells 42 = .ok (.getfield 21, 3) := by decide +kernel
theorem dX1_everSmells_45 : decode cX1_everSmells 45 = .ok (.iload 4, 2) := by decide +kernel
theorem dX1_everSmells_47 : decode cX1_everSmells 47 = .ok (.iaload, 1) := by decide +kernel
theorem dX1_everSmells_48 : decode cX1_everSmells 48 = .ok (.ifCond .gt 13, 3) := by decide +kernel
theorem dX1_everSmells_51 : decode cX1_everSmells 51 = .ok (.aload_n 0, 1) := by decide +kernel
theorem dX1_everSmells_52 : decode cX1_everSmells 52 = .ok (.getfield 24, 3) := by decide +kernel
theorem dX1_everSmells_55 : decode cX1_everSmells 55 = .ok (.iload 4, 2) := by decide +kernel
theorem dX1_everSmells_57 : decode cX1_everSmells 57 = .ok (.iaload, 1) := by decide +kernel
theorem dX1_everSmells_58 : decode cX1_everSmells 58 = .ok (.ifCond .le 5, 3) := by decide +kernel
theorem dX1_everSmells_61 : decode cX1_everSmells 61 = .ok (.iconst 1, 1) := by decide +kernel
theorem dX1_everSmells_62 : decode cX1_everSmells 62 = .ok (.ireturn, 1) := by decide +kernel
theorem dX1_everSmells_63 : decode cX1_everSmells 63 = .ok (.iinc 3 1, 3) := by decide +kernel
theorem dX1_everSmells_66 : decode cX1_everSmells 66 = .ok (.goto (-57), 3) := by decide +kernel
theorem dX1_everSmells_69 : decode cX1_everSmells 69 = .ok (.iinc 2 1, 3) := by decide +kernel
theorem dX1_everSmells_72 : decode cX1_everSmells 72 = .ok (.goto (-70), 3) := by decide +kernel
theorem dX1_everSmells_75 : decode cX1_everSmells 75 = .ok (.iconst 0, 1) := by decide +kernel
theorem dX1_everSmells_76 : decode cX1_everSmells 76 = .ok (.ireturn, 1) := by decide +kernel
def J_X1_everSmells_61 (D : aD) : Option (Int32 × aD) :=
  some (1, D)
def J_X1_everSmells_75 (D : aD) : Option (Int32 × aD) :=
  some (0, D)
def J_X1_everSmells_69 (v1 : Int32) (v2 : Int32) (D : aD) : Option ((Int32 × aD) ⊕ ((aD) ⊕ (aD))) :=
  aLet (v2 + 1) (fun v2_1 => some (.inl (v2_1, D)))
def B_X1_everSmells_9 (v1 : Int32) (v2 : Int32) (v3 : Int32) (D : aD) : Option ((Int32 × aD) ⊕ ((aD) ⊕ (aD))) :=
  aGd (aIn v2 5) (if gI D 14 v2.toNatClampNeg ≤ 0 then (some (.inr (.inr (D)))) else (if gI D 2 5 ≤ v3 then (some (.inr (.inr (D)))) else (aBi (f_X1_placeOf v2 v3 D) (fun y_3 D_4 => aLet (y_3 + v1) (fun v4_5 => aGd (aIn v4_5 300) (if 0 < gI D_4 64 v4_5.toNatClampNeg then (some (.inr (.inl (D_4)))) else (aGd (aIn v4_5 300) (if gI D_4 65 v4_5.toNatClampNeg ≤ 0 then (aLet (v3 + 1) (fun v3_8 => some (.inl (v3_8, D_4)))) else (some (.inr (.inl (D_4))))))))))))
def J_X1_everSmells_9 (v1 : Int32) (v2 : Int32) (v3 : Int32) (D : aD) : Option ((Int32 × aD) ⊕ ((aD) ⊕ (aD))) :=
  (aLp (fun s => B_X1_everSmells_9 v1 v2 s.1 s.2) (v3, D)).bind (Sum.elim (fun r => some (.inr (.inl (r)))) ((fun r => J_X1_everSmells_69 v1 v2 r)))
def B_X1_everSmells_2 (v1 : Int32) (v2 : Int32) (D : aD) : Option ((Int32 × aD) ⊕ ((aD) ⊕ (aD))) :=
  if 5 ≤ v2 then (some (.inr (.inr (D)))) else (J_X1_everSmells_9 v1 v2 0 D)
def J_X1_everSmells_2 (v1 : Int32) (v2 : Int32) (D : aD) : Option (Int32 × aD) :=
  (aLp (fun s => B_X1_everSmells_2 v1 s.1 s.2) (v2, D)).bind (Sum.elim (fun r => J_X1_everSmells_61 r) ((fun r => J_X1_everSmells_75 r)))
def f_X1_everSmells (v1 : Int32) (D : aD) : Option (Int32 × aD) :=
  J_X1_everSmells_2 v1 0 D
set_option maxRecDepth 100000 in
set_option maxHeartbeats 800000 in
theorem c_X1_everSmells {G : aG} (hG : gOK G) {shp : List aSh} (hS : aShp shp) {fr : Option Nat} {v1 : Int32} {D : aD} {K : Int32 → aD → Prop} (h : Ok2 (f_X1_everSmells v1 D) K) : AC G (aRm 2 0 0) M_X1_everSmells [.ref 60, .int v1] fr shp D (aQi shp K) := by
  replace h := Ok2.ok h
  unfold f_X1_everSmells at h
  refine AC.of (al := [some (.ref 60), some (.int v1), none, none, none]) (r := 3) (by decide) (Nat.le_of_ble_eq_true rfl) rfl ?_
  have hJ_61 : ∀ (D : aD), Ok (J_X1_everSmells_61 D) (fun r => K r.1 r.2) → AW G (aRm 2 0 0) M_X1_everSmells fr 0 0 61 [none, none, none, none, none] [] shp D (aQi shp K) := by
    intro D h
    unfold J_X1_everSmells_61 at h
    refine aw_iconst (n := 62) (v := 1) dX1_everSmells_61 rfl (by decide) ?_
    exact aw_zret rfl (by decide) (by decide) (by decide) dX1_everSmells_62 ⟨_, rfl, rfl, (Ok.dn h :)⟩
  have hJ_75 : ∀ (D : aD), Ok (J_X1_everSmells_75 D) (fun r => K r.1 r.2) → AW G (aRm 2 0 0) M_X1_everSmells fr 0 0 75 [none, none, none, none, none] [] shp D (aQi shp K) := by
    intro D h
    unfold J_X1_everSmells_75 at h
    refine aw_iconst (n := 76) (v := 0) dX1_everSmells_75 rfl (by decide) ?_
    exact aw_zret rfl (by decide) (by decide) (by decide) dX1_everSmells_76 ⟨_, rfl, rfl, (Ok.dn h :)⟩
  have hJ_2 : ∀ (v1 : Int32) (v2 : Int32) (D : aD), Ok (J_X1_everSmells_2 v1 v2 D) (fun r => K r.1 r.2) → AW G (aRm 2 0 0) M_X1_everSmells fr 0 0 2 [some (.ref 60), some (.int v1), some (.int v2), none, none] [] shp D (aQi shp K) := by
    intro v1 v2 D h
    unfold J_X1_everSmells_2 at h
    refine Ok.lp (P := fun s => AW G (aRm 2 0 0) M_X1_everSmells fr 0 0 2 [some (.ref 60), some (.int v1), some (.int (s.1)), none, none] [] shp s.2 (aQi shp K)) (fun s Kb2 hL2 hR2 h => ?_) (v2, D) (Ok.bind h)
    obtain ⟨v2, D⟩ := s
    replace h : Ok (B_X1_everSmells_2 v1 v2 D) Kb2 := h
    unfold B_X1_everSmells_2 at h
    have hJ_69 : ∀ (v2 : Int32) (D : aD), Ok (J_X1_everSmells_69 v1 v2 D) Kb2 → AW G (aRm 2 0 0) M_X1_everSmells fr 0 0 69 [some (.ref 60), some (.int v1), some (.int v2), none, none] [] shp D (aQi shp K) := by
      intro v2 D h
      unfold J_X1_everSmells_69 at h
      obtain ⟨v2_1, e_v2_1, h⟩ := Ok.let_ h
      refine aw_iinc (n := 72) (al' := [some (.ref 60), some (.int v1), some (.int v2_1), none, none]) dX1_everSmells_69 rfl rfl e_v2_1 (by decide) rfl ?_
      refine aw_goto (tgt := 2) dX1_everSmells_72 (by decide) ?_
      exact aw_le' (hL2 (v2_1, D) (Ok.dn h :)) ⟨rfl, ⟨rfl, ⟨rfl, trivial⟩⟩⟩
    have hJ_9 : ∀ (v2 : Int32) (v3 : Int32) (D : aD), Ok (J_X1_everSmells_9 v1 v2 v3 D) Kb2 → AW G (aRm 2 0 0) M_X1_everSmells fr 0 0 9 [some (.ref 60), some (.int v1), some (.int v2), some (.int v3), none] [] shp D (aQi shp K) := by
      intro v2 v3 D h
      unfold J_X1_everSmells_9 at h
      refine Ok.lp (P := fun s => AW G (aRm 2 0 0) M_X1_everSmells fr 0 0 9 [some (.ref 60), some (.int v1), some (.int v2), some (.int (s.1)), none] [] shp s.2 (aQi shp K)) (fun s Kb9 hL9 hR9 h => ?_) (v3, D) (Ok.bind h)
      obtain ⟨v3, D⟩ := s
      replace h : Ok (B_X1_everSmells_9 v1 v2 v3 D) Kb9 := h
      unfold B_X1_everSmells_9 at h
      refine aw_aload_n (n := 10) (i := 0) dX1_everSmells_9 rfl rfl rfl ?_
      refine aw_getR (n := 13) (j := 0) (r := 2) hG.1 fl_RX1_33 (sF_60 hS) rfl dX1_everSmells_10 rfl ?_
      refine aw_getR (n := 16) (j := 16) (r := 14) hG.1 fl_RX1_83 (sF_2 hS) rfl dX1_everSmells_13 rfl ?_
      refine aw_iload_n (n := 17) (i := 2) dX1_everSmells_16 rfl rfl rfl ?_
      obtain ⟨g_2, h⟩ := Ok.gd h
      refine aw_iaload (n := 18) hG.1 (sF_14 hS) (aIn_in g_2) dX1_everSmells_17 rfl ?_
      refine aw_if_le (n := 21) (tgt := 69) dX1_everSmells_18 rfl (by decide) (fun c => ?_) (fun c => ?_)
      · replace h := Ok.ift h c
        exact aw_le' (hJ_69 v2 D (Ok.er (hR9 (.inr (D)) (Ok.dn h :)) :)) ⟨rfl, ⟨rfl, ⟨rfl, trivial⟩⟩⟩
      · replace h := Ok.iff h c
        refine aw_iload_n (n := 22) (i := 3) dX1_everSmells_21 rfl rfl rfl ?_
        refine aw_aload_n (n := 23) (i := 0) dX1_everSmells_22 rfl rfl rfl ?_
        refine aw_getR (n := 26) (j := 0) (r := 2) hG.1 fl_RX1_33 (sF_60 hS) rfl dX1_everSmells_23 rfl ?_
        refine aw_getI (n := 29) (j := 5) hG.1 fl_RX1_86 (sF_2 hS) rfl dX1_everSmells_26 rfl ?_
        refine aw_icmp_ge (n := 32) (tgt := 69) dX1_everSmells_29 rfl (by decide) (fun c => ?_) (fun c => ?_)
        · replace h := Ok.ift h c
          exact aw_le' (hJ_69 v2 D (Ok.er (hR9 (.inr (D)) (Ok.dn h :)) :)) ⟨rfl, ⟨rfl, ⟨rfl, trivial⟩⟩⟩
        · replace h := Ok.iff h c
          refine aw_iload_n (n := 33) (i := 2) dX1_everSmells_32 rfl rfl rfl ?_
          refine aw_iload_n (n := 34) (i := 3) dX1_everSmells_33 rfl rfl rfl ?_
          refine aw_cSi (M := M_X1_everSmells) (n := 37) (As := [.int v2, .int v3]) (rest := []) lk_RX1_89 rfl rfl (c_X1_placeOf hG hS (h := Ok.bi h)) (by decide) (Nat.le_of_ble_eq_true rfl) (by decide) (by decide) dX1_everSmells_34 rfl (fun y_3 D_4 h => ?_)
          refine aw_iload_n (n := 38) (i := 1) dX1_everSmells_37 rfl rfl rfl ?_
          refine aw_iadd (n := 39) dX1_everSmells_38 rfl ?_
          obtain ⟨v4_5, e_v4_5, h⟩ := Ok.let_ h
          refine aw_istore (n := 41) (i := 4) (al' := [some (.ref 60), some (.int v1), some (.int v2), some (.int v3), some (.int v4_5)]) dX1_everSmells_39 rfl e_v4_5 (by decide) rfl ?_
          refine aw_aload_n (n := 42) (i := 0) dX1_everSmells_41 rfl rfl rfl ?_
          refine aw_getR (n := 45) (j := 7) (r := 64) hG.1 fl_RX1_21 (sF_60 hS) rfl dX1_everSmells_42 rfl ?_
          refine aw_iload (n := 47) (i := 4) dX1_everSmells_45 rfl rfl ?_
          obtain ⟨g_6, h⟩ := Ok.gd h
          refine aw_iaload (n := 48) hG.1 (sF_64 hS) (aIn_in g_6) dX1_everSmells_47 rfl ?_
          refine aw_if_gt (n := 51) (tgt := 61) dX1_everSmells_48 rfl (by decide) (fun c => ?_) (fun c => ?_)
          · replace h := Ok.ift h c
            replace h := (Ok.el (hR9 (.inl (D_4)) (Ok.dn h :)) :)
            exact aw_le' (hJ_61 D_4 (Ok.el (hR2 (.inl (D_4)) (Ok.dn h :)) :)) trivial
          · replace h := Ok.iff h c
            refine aw_aload_n (n := 52) (i := 0) dX1_everSmells_51 rfl rfl rfl ?_
            refine aw_getR (n := 55) (j := 8) (r := 65) hG.1 fl_RX1_24 (sF_60 hS) rfl dX1_everSmells_52 rfl ?_
            refine aw_iload (n := 57) (i := 4) dX1_everSmells_55 rfl rfl ?_
            obtain ⟨g_7, h⟩ := Ok.gd h
            refine aw_iaload (n := 58) hG.1 (sF_65 hS) (aIn_in g_7) dX1_everSmells_57 rfl ?_
            refine aw_if_le (n := 61) (tgt := 63) dX1_everSmells_58 rfl (by decide) (fun c => ?_) (fun c => ?_)
            · replace h := Ok.ift h c
              obtain ⟨v3_8, e_v3_8, h⟩ := Ok.let_ h
              refine aw_iinc (n := 66) (al' := [some (.ref 60), some (.int v1), some (.int v2), some (.int v3_8), some (.int v4_5)]) dX1_everSmells_63 rfl rfl e_v3_8 (by decide) rfl ?_
              refine aw_goto (tgt := 9) dX1_everSmells_66 (by decide) ?_
              exact aw_le' (hL9 (v3_8, D_4) (Ok.dn h :)) ⟨rfl, ⟨rfl, ⟨rfl, ⟨rfl, trivial⟩⟩⟩⟩
            · replace h := Ok.iff h c
              replace h := (Ok.el (hR9 (.inl (D_4)) (Ok.dn h :)) :)
              exact aw_le' (hJ_61 D_4 (Ok.el (hR2 (.inl (D_4)) (Ok.dn h :)) :)) trivial
    refine aw_iload_n (n := 3) (i := 2) dX1_everSmells_2 rfl rfl rfl ?_
    refine aw_iconst (n := 4) (v := 5) dX1_everSmells_3 rfl (by decide) ?_
    refine aw_icmp_ge (n := 7) (tgt := 75) dX1_everSmells_4 rfl (by decide) (fun c => ?_) (fun c => ?_)
    · replace h := Ok.ift h c
      exact aw_le' (hJ_75 D (Ok.er (hR2 (.inr (D)) (Ok.dn h :)) :)) trivial
    · replace h := Ok.iff h c
      refine aw_iconst (n := 8) (v := 0) dX1_everSmells_7 rfl (by decide) ?_
      refine aw_istore_n (n := 9) (i := 3) (al' := [some (.ref 60), some (.int v1), some (.int v2), some (.int 0), none]) dX1_everSmells_8 rfl rfl rfl (by decide) rfl ?_
      exact aw_le' (hJ_9 v2 0 D h) ⟨rfl, ⟨rfl, ⟨rfl, ⟨rfl, trivial⟩⟩⟩⟩
  refine aw_iconst (n := 1) (v := 0) dX1_everSmells_0 rfl (by decide) ?_
  refine aw_istore_n (n := 2) (i := 2) (al' := [some (.ref 60), some (.int v1), some (.int 0), none, none]) dX1_everSmells_1 rfl rfl rfl (by decide) rfl ?_
  exact aw_le' (hJ_2 v1 0 D h) ⟨rfl, ⟨rfl, ⟨rfl, trivial⟩⟩⟩
theorem dX3_listMine_0 : decode cX3_listMine 0 = .ok (.aload_n 0, 1) := by decide +kernel
theorem dX3_listMine_1 : decode cX3_listMine 1 = .ok (.iconst 0, 1) := by decide +kernel
theorem dX3_listMine_2 : decode cX3_listMine 2 = .ok (.putfield 58, 3) := by decide +kernel
theorem dX3_listMine_5 : decode cX3_listMine 5 = .ok (.iconst 0, 1) := by decide +kernel
theorem dX3_listMine_6 : decode cX3_listMine 6 = .ok (.istore_n 2, 1) := by decide +kernel
theorem dX3_listMine_7 : decode cX3_listMine 7 = .ok (.iload_n 2, 1) := by decide +kernel
theorem dX3_listMine_8 : decode cX3_listMine 8 = .ok (.aload_n 0, 1) := by decide +kernel
theorem dX3_listMine_9 : decode cX3_listMine 9 = .ok (.getfield 27, 3) := by decide +kernel
theorem dX3_listMine_12 : decode cX3_listMine 12 = .ok (.getfield 62, 3) := by decide +kernel
theorem dX3_listMine_15 : decode cX3_listMine 15 = .ok (.if_icmp .ge 119, 3) := by decide +kernel
theorem dX3_listMine_18 : decode cX3_listMine 18 = .ok (.aload_n 0, 1) := by decide +kernel
theorem dX3_listMine_19 : decode cX3_listMine 19 = .ok (.getfield 58, 3) := by decide +kernel
theorem dX3_listMine_22 : decode cX3_listMine 22 = .ok (.bipush 6, 2) := by decide +kernel
theorem dX3_listMine_24 : decode cX3_listMine 24 = .ok (.if_icmp .ge 110, 3) := by decide +kernel
theorem dX3_listMine_27 : decode cX3_listMine 27 = .ok (.aload_n 0, 1) := by decide +kernel
theorem dX3_listMine_28 : decode cX3_listMine 28 = .ok (.getfield 27, 3) := by decide +kernel
theorem dX3_listMine_31 : decode cX3_listMine 31 = .ok (.getfield 65, 3) := by decide +kernel
theorem dX3_listMine_34 : decode cX3_listMine 34 = .ok (.iload_n 2, 1) := by decide +kernel
theorem dX3_listMine_35 : decode cX3_listMine 35 = .ok (.iaload, 1) := by decide +kernel
theorem dX3_listMine_36 : decode cX3_listMine 36 = .ok (.iload_n 1, 1) := by decide +kernel
theorem dX3_listMine_37 : decode cX3_listMine 37 = .ok (.if_icmp .ne 91, 3) := by decide +kernel
theorem dX3_listMine_40 : decode cX3_listMine 40 = .ok (.aload_n 0, 1) := by decide +kernel
theorem dX3_listMine_41 : decode cX3_listMine 41 = .ok (.getfield 9, 3) := by decide +kernel
theorem dX3_listMine_44 : decode cX3_listMine 44 = .ok (.aload_n 0, 1) := by decide +kernel
theorem dX3_listMine_45 : decode cX3_listMine 45 = .ok (.getfield 58, 3) := by decide +kernel
theorem dX3_listMine_48 : decode cX3_listMine 48 = .ok (.iload_n 2, 1) := by decide +kernel
theorem dX3_listMine_49 : decode cX3_listMine 49 = .ok (.iastore, 1) := by decide +kernel
theorem dX3_listMine_50 : decode cX3_listMine 50 = .ok (.aload_n 0, 1) := by decide +kernel
theorem dX3_listMine_51 : decode cX3_listMine 51 = .ok (.getfield 15, 3) := by decide +kernel
theorem dX3_listMine_54 : decode cX3_listMine 54 = .ok (.aload_n 0, 1) := by decide +kernel
theorem dX3_listMine_55 : decode cX3_listMine 55 = .ok (.getfield 58, 3) := by decide +kernel
theorem dX3_listMine_58 : decode cX3_listMine 58 = .ok (.aload_n 0, 1) := by decide +kernel
theorem dX3_listMine_59 : decode cX3_listMine 59 = .ok (.getfield 31, 3) := by decide +kernel
theorem dX3_listMine_62 : decode cX3_listMine 62 = .ok (.iload_n 2, 1) := by decide +kernel
theorem dX3_listMine_63 : decode cX3_listMine 63 = .ok (.invokevirtual 68, 3) := by decide +kernel
theorem dX3_listMine_66 : decode cX3_listMine 66 = .ok (.ifCond .ne 7, 3) := by decide +kernel
theorem dX3_listMine_69 : decode cX3_listMine 69 = .ok (.iconst 1, 1) := by decide +kernel
theorem dX3_listMine_70 : decode cX3_listMine 70 = .ok (.goto 19, 3) := by decide +kernel
theorem dX3_listMine_73 : decode cX3_listMine 73 = .ok (.aload_n 0, 1) := by decide +kernel
theorem dX3_listMine_74 : decode cX3_listMine 74 = .ok (.getfield 27, 3) := by decide +kernel
theorem dX3_listMine_77 : decode cX3_listMine 77 = .ok (.iload_n 2, 1) := by decide +kernel
theorem dX3_listMine_78 : decode cX3_listMine 78 = .ok (.invokevirtual 72, 3) := by decide +kernel
theorem dX3_listMine_81 : decode cX3_listMine 81 = .ok (.ifCond .eq 7, 3) := by decide +kernel
theorem dX3_listMine_84 : decode cX3_listMine 84 = .ok (.iconst 3, 1) := by decide +kernel
theorem dX3_listMine_85 : decode cX3_listMine 85 = .ok (.goto 4, 3) := by decide +kernel
theorem dX3_listMine_88 : decode cX3_listMine 88 = .ok (.iconst 2, 1) := by decide +kernel
theorem dX3_listMine_89 : decode cX3_listMine 89 = .ok (.iastore, 1) := by decide +kernel
theorem dX3_listMine_90 : decode cX3_listMine 90 = .ok (.aload_n 0, 1) := by decide +kernel
theorem dX3_listMine_91 : decode cX3_listMine 91 = .ok (.getfield 18, 3) := by decide +kernel
theorem dX3_listMine_94 : decode cX3_listMine 94 = .ok (.aload_n 0, 1) := by decide +kernel
theorem dX3_listMine_95 : decode cX3_listMine 95 = .ok (.getfield 58, 3) := by decide +kernel
theorem dX3_listMine_98 : decode cX3_listMine 98 = .ok (.aload_n 0, 1) := by decide +kernel
theorem dX3_listMine_99 : decode cX3_listMine 99 = .ok (.getfield 31, 3) := by decide +kernel
theorem dX3_listMine_102 : decode cX3_listMine 102 = .ok (.getfield 75, 3) := by decide +kernel
theorem dX3_listMine_105 : decode cX3_listMine 105 = .ok (.iload_n 2, 1) := by decide +kernel
theorem dX3_listMine_106 : decode cX3_listMine 106 = .ok (.iaload, 1) := by decide +kernel
theorem dX3_listMine_107 : decode cX3_listMine 107 = .ok (.iastore, 1) := by decide +kernel
theorem dX3_listMine_108 : decode cX3_listMine 108 = .ok (.aload_n 0, 1) := by decide +kernel
theorem dX3_listMine_109 : decode cX3_listMine 109 = .ok (.getfield 31, 3) := by decide +kernel
theorem dX3_listMine_112 : decode cX3_listMine 112 = .ok (.getfield 75, 3) := by decide +kernel
theorem dX3_listMine_115 : decode cX3_listMine 115 = .ok (.iload_n 2, 1) := by decide +kernel
theorem dX3_listMine_116 : decode cX3_listMine 116 = .ok (.iconst 0, 1) := by decide +kernel
theorem dX3_listMine_117 : decode cX3_listMine 117 = .ok (.iastore, 1) := by decide +kernel
theorem dX3_listMine_118 : decode cX3_listMine 118 = .ok (.aload_n 0, 1) := by decide +kernel
theorem dX3_listMine_119 : decode cX3_listMine 119 = .ok (.dup, 1) := by decide +kernel
theorem dX3_listMine_120 : decode cX3_listMine 120 = .ok (.getfield 58, 3) := by decide +kernel
theorem dX3_listMine_123 : decode cX3_listMine 123 = .ok (.iconst 1, 1) := by decide +kernel
theorem dX3_listMine_124 : decode cX3_listMine 124 = .ok (.iadd, 1) := by decide +kernel
theorem dX3_listMine_125 : decode cX3_listMine 125 = .ok (.putfield 58, 3) := by decide +kernel
theorem dX3_listMine_128 : decode cX3_listMine 128 = .ok (.iinc 2 1, 3) := by decide +kernel
theorem dX3_listMine_131 : decode cX3_listMine 131 = .ok (.goto (-124), 3) := by decide +kernel
theorem dX3_listMine_134 : decode cX3_listMine 134 = .ok (.return_, 1) := by decide +kernel
def J_X3_listMine_134 (D : aD) : Option (aD) :=
  some D
def J_X3_listMine_89 (v1 : Int32) (v2 : Int32) (t0 : Int32) (t1 : Int32) (D : aD) : Option ((Int32 × aD) ⊕ ((aD))) :=
  aGd (aIn t1 6) (aLet (pI D 70 t1.toNatClampNeg t0) (fun D_11 => aGd (aIn v2 12) (aGd (aIn (gI D_11 68 2) 6) (aLet (pI D_11 71 (gI D_11 68 2).toNatClampNeg (gI D_11 63 v2.toNatClampNeg)) (fun D_14 => aGd (aIn v2 12) (aLet (pI D_14 63 v2.toNatClampNeg 0) (fun D_16 => aLet (pI D_16 68 2 ((gI D_16 68 2) + 1)) (fun D_17 => aLet (v2 + 1) (fun v2_18 => some (.inl (v2_18, D_17)))))))))))
def B_X3_listMine_7 (v1 : Int32) (v2 : Int32) (D : aD) : Option ((Int32 × aD) ⊕ ((aD))) :=
  if gI D 2 4 ≤ v2 then (some (.inr D)) else (if 6 ≤ gI D 68 2 then (some (.inr D)) else (aGd (aIn v2 12) (if gI D 10 v2.toNatClampNeg ≠ v1 then (aLet (v2 + 1) (fun v2_3 => some (.inl (v2_3, D)))) else (aGd (aIn (gI D 68 2) 6) (aLet (pI D 69 (gI D 68 2).toNatClampNeg v2) (fun D_5 => aBi (f_X1_everSmells v2 D_5) (fun y_6 D_7 => if y_6 ≠ 0 then (aBi (f_X6_isHerb v2 D_7) (fun y_8 D_9 => if y_8 = 0 then (J_X3_listMine_89 v1 v2 2 (gI D_5 68 2) D_9) else (J_X3_listMine_89 v1 v2 3 (gI D_5 68 2) D_9))) else (J_X3_listMine_89 v1 v2 1 (gI D_5 68 2) D_7))))))))
def J_X3_listMine_7 (v1 : Int32) (v2 : Int32) (D : aD) : Option (aD) :=
  (aLp (fun s => B_X3_listMine_7 v1 s.1 s.2) (v2, D)).bind (fun r => J_X3_listMine_134 r)
def f_X3_listMine (v1 : Int32) (D : aD) : Option (aD) :=
  aLet (pI D 68 2 0) (fun D_1 => J_X3_listMine_7 v1 0 D_1)
set_option maxRecDepth 100000 in
set_option maxHeartbeats 800000 in
theorem c_X3_listMine {G : aG} (hG : gOK G) {shp : List aSh} (hS : aShp shp) {fr : Option Nat} {v1 : Int32} {D : aD} {K : aD → Prop} (h : Ok (f_X3_listMine v1 D) K) : AC G (aRm 3 0 0) M_X3_listMine [.ref 68, .int v1] fr shp D (aQv shp K) := by
  unfold f_X3_listMine at h
  refine AC.of (al := [some (.ref 68), some (.int v1), none]) (r := 1) (by decide) (Nat.le_of_ble_eq_true rfl) rfl ?_
  have hJ_134 : ∀ (D : aD), Ok (J_X3_listMine_134 D) K → AW G (aRm 3 0 0) M_X3_listMine fr 0 0 134 [none, none, none] [] shp D (aQv shp K) := by
    intro D h
    unfold J_X3_listMine_134 at h
    exact aw_vret rfl (by decide) (by decide) dX3_listMine_134 ⟨rfl, rfl, (Ok.dn h :)⟩
  have hJ_7 : ∀ (v1 : Int32) (v2 : Int32) (D : aD), Ok (J_X3_listMine_7 v1 v2 D) K → AW G (aRm 3 0 0) M_X3_listMine fr 0 0 7 [some (.ref 68), some (.int v1), some (.int v2)] [] shp D (aQv shp K) := by
    intro v1 v2 D h
    unfold J_X3_listMine_7 at h
    refine Ok.lp (P := fun s => AW G (aRm 3 0 0) M_X3_listMine fr 0 0 7 [some (.ref 68), some (.int v1), some (.int (s.1))] [] shp s.2 (aQv shp K)) (fun s Kb7 hL7 hR7 h => ?_) (v2, D) (Ok.bind h)
    obtain ⟨v2, D⟩ := s
    replace h : Ok (B_X3_listMine_7 v1 v2 D) Kb7 := h
    unfold B_X3_listMine_7 at h
    have hJ_89 : ∀ (v2 : Int32) (t0 : Int32) (t1 : Int32) (D : aD), Ok (J_X3_listMine_89 v1 v2 t0 t1 D) Kb7 → AW G (aRm 3 0 0) M_X3_listMine fr 0 0 89 [some (.ref 68), some (.int v1), some (.int v2)] [.int t0, .int t1, .ref 70] shp D (aQv shp K) := by
      intro v2 t0 t1 D h
      unfold J_X3_listMine_89 at h
      obtain ⟨g_10, h⟩ := Ok.gd h
      obtain ⟨D_11, e_D_11, h⟩ := Ok.let_ h
      refine aw_iastore (n := 90) hG.1 (sF_70 hS) (aIn_in g_10) e_D_11 dX3_listMine_89 rfl ?_
      refine aw_aload_n (n := 91) (i := 0) dX3_listMine_90 rfl rfl rfl ?_
      refine aw_getR (n := 94) (j := 5) (r := 71) hG.1 fl_RX3_18 (sF_68 hS) rfl dX3_listMine_91 rfl ?_
      refine aw_aload_n (n := 95) (i := 0) dX3_listMine_94 rfl rfl rfl ?_
      refine aw_getI (n := 98) (j := 2) hG.1 fl_RX3_58 (sF_68 hS) rfl dX3_listMine_95 rfl ?_
      refine aw_aload_n (n := 99) (i := 0) dX3_listMine_98 rfl rfl rfl ?_
      refine aw_getR (n := 102) (j := 1) (r := 60) hG.1 fl_RX3_31 (sF_68 hS) rfl dX3_listMine_99 rfl ?_
      refine aw_getR (n := 105) (j := 6) (r := 63) hG.1 fl_RX3_75 (sF_60 hS) rfl dX3_listMine_102 rfl ?_
      refine aw_iload_n (n := 106) (i := 2) dX3_listMine_105 rfl rfl rfl ?_
      obtain ⟨g_12, h⟩ := Ok.gd h
      refine aw_iaload (n := 107) hG.1 (sF_63 hS) (aIn_in g_12) dX3_listMine_106 rfl ?_
      obtain ⟨g_13, h⟩ := Ok.gd h
      obtain ⟨D_14, e_D_14, h⟩ := Ok.let_ h
      refine aw_iastore (n := 108) hG.1 (sF_71 hS) (aIn_in g_13) e_D_14 dX3_listMine_107 rfl ?_
      refine aw_aload_n (n := 109) (i := 0) dX3_listMine_108 rfl rfl rfl ?_
      refine aw_getR (n := 112) (j := 1) (r := 60) hG.1 fl_RX3_31 (sF_68 hS) rfl dX3_listMine_109 rfl ?_
      refine aw_getR (n := 115) (j := 6) (r := 63) hG.1 fl_RX3_75 (sF_60 hS) rfl dX3_listMine_112 rfl ?_
      refine aw_iload_n (n := 116) (i := 2) dX3_listMine_115 rfl rfl rfl ?_
      refine aw_iconst (n := 117) (v := 0) dX3_listMine_116 rfl (by decide) ?_
      obtain ⟨g_15, h⟩ := Ok.gd h
      obtain ⟨D_16, e_D_16, h⟩ := Ok.let_ h
      refine aw_iastore (n := 118) hG.1 (sF_63 hS) (aIn_in g_15) e_D_16 dX3_listMine_117 rfl ?_
      refine aw_aload_n (n := 119) (i := 0) dX3_listMine_118 rfl rfl rfl ?_
      refine aw_dup (n := 120) dX3_listMine_119 rfl rfl ?_
      refine aw_getI (n := 123) (j := 2) hG.1 fl_RX3_58 (sF_68 hS) rfl dX3_listMine_120 rfl ?_
      refine aw_iconst (n := 124) (v := 1) dX3_listMine_123 rfl (by decide) ?_
      refine aw_iadd (n := 125) dX3_listMine_124 rfl ?_
      obtain ⟨D_17, e_D_17, h⟩ := Ok.let_ h
      refine aw_putI (n := 128) (j := 2) hG.1 fl_RX3_58 (sF_68 hS) rfl e_D_17 dX3_listMine_125 rfl ?_
      obtain ⟨v2_18, e_v2_18, h⟩ := Ok.let_ h
      refine aw_iinc (n := 131) (al' := [some (.ref 68), some (.int v1), some (.int v2_18)]) dX3_listMine_128 rfl rfl e_v2_18 (by decide) rfl ?_
      refine aw_goto (tgt := 7) dX3_listMine_131 (by decide) ?_
      exact aw_le' (hL7 (v2_18, D_17) (Ok.dn h :)) ⟨rfl, ⟨rfl, ⟨rfl, trivial⟩⟩⟩
    refine aw_iload_n (n := 8) (i := 2) dX3_listMine_7 rfl rfl rfl ?_
    refine aw_aload_n (n := 9) (i := 0) dX3_listMine_8 rfl rfl rfl ?_
    refine aw_getR (n := 12) (j := 0) (r := 2) hG.1 fl_RX3_27 (sF_68 hS) rfl dX3_listMine_9 rfl ?_
    refine aw_getI (n := 15) (j := 4) hG.1 fl_RX3_62 (sF_2 hS) rfl dX3_listMine_12 rfl ?_
    refine aw_icmp_ge (n := 18) (tgt := 134) dX3_listMine_15 rfl (by decide) (fun c => ?_) (fun c => ?_)
    · replace h := Ok.ift h c
      exact aw_le' (hJ_134 D (hR7 D (Ok.dn h :))) trivial
    · replace h := Ok.iff h c
      refine aw_aload_n (n := 19) (i := 0) dX3_listMine_18 rfl rfl rfl ?_
      refine aw_getI (n := 22) (j := 2) hG.1 fl_RX3_58 (sF_68 hS) rfl dX3_listMine_19 rfl ?_
      refine aw_bipush (n := 24) (v := 6) dX3_listMine_22 rfl (by decide) ?_
      refine aw_icmp_ge (n := 27) (tgt := 134) dX3_listMine_24 rfl (by decide) (fun c => ?_) (fun c => ?_)
      · replace h := Ok.ift h c
        exact aw_le' (hJ_134 D (hR7 D (Ok.dn h :))) trivial
      · replace h := Ok.iff h c
        refine aw_aload_n (n := 28) (i := 0) dX3_listMine_27 rfl rfl rfl ?_
        refine aw_getR (n := 31) (j := 0) (r := 2) hG.1 fl_RX3_27 (sF_68 hS) rfl dX3_listMine_28 rfl ?_
        refine aw_getR (n := 34) (j := 12) (r := 10) hG.1 fl_RX3_65 (sF_2 hS) rfl dX3_listMine_31 rfl ?_
        refine aw_iload_n (n := 35) (i := 2) dX3_listMine_34 rfl rfl rfl ?_
        obtain ⟨g_2, h⟩ := Ok.gd h
        refine aw_iaload (n := 36) hG.1 (sF_10 hS) (aIn_in g_2) dX3_listMine_35 rfl ?_
        refine aw_iload_n (n := 37) (i := 1) dX3_listMine_36 rfl rfl rfl ?_
        refine aw_icmp_ne (n := 40) (tgt := 128) dX3_listMine_37 rfl (by decide) (fun c => ?_) (fun c => ?_)
        · replace h := Ok.ift h c
          obtain ⟨v2_3, e_v2_3, h⟩ := Ok.let_ h
          refine aw_iinc (n := 131) (al' := [some (.ref 68), some (.int v1), some (.int v2_3)]) dX3_listMine_128 rfl rfl e_v2_3 (by decide) rfl ?_
          refine aw_goto (tgt := 7) dX3_listMine_131 (by decide) ?_
          exact aw_le' (hL7 (v2_3, D) (Ok.dn h :)) ⟨rfl, ⟨rfl, ⟨rfl, trivial⟩⟩⟩
        · replace h := Ok.iffn h c
          refine aw_aload_n (n := 41) (i := 0) dX3_listMine_40 rfl rfl rfl ?_
          refine aw_getR (n := 44) (j := 3) (r := 69) hG.1 fl_RX3_9 (sF_68 hS) rfl dX3_listMine_41 rfl ?_
          refine aw_aload_n (n := 45) (i := 0) dX3_listMine_44 rfl rfl rfl ?_
          refine aw_getI (n := 48) (j := 2) hG.1 fl_RX3_58 (sF_68 hS) rfl dX3_listMine_45 rfl ?_
          refine aw_iload_n (n := 49) (i := 2) dX3_listMine_48 rfl rfl rfl ?_
          obtain ⟨g_4, h⟩ := Ok.gd h
          obtain ⟨D_5, e_D_5, h⟩ := Ok.let_ h
          refine aw_iastore (n := 50) hG.1 (sF_69 hS) (aIn_in g_4) e_D_5 dX3_listMine_49 rfl ?_
          refine aw_aload_n (n := 51) (i := 0) dX3_listMine_50 rfl rfl rfl ?_
          refine aw_getR (n := 54) (j := 4) (r := 70) hG.1 fl_RX3_15 (sF_68 hS) rfl dX3_listMine_51 rfl ?_
          refine aw_aload_n (n := 55) (i := 0) dX3_listMine_54 rfl rfl rfl ?_
          refine aw_getI (n := 58) (j := 2) hG.1 fl_RX3_58 (sF_68 hS) rfl dX3_listMine_55 rfl ?_
          refine aw_aload_n (n := 59) (i := 0) dX3_listMine_58 rfl rfl rfl ?_
          refine aw_getR (n := 62) (j := 1) (r := 60) hG.1 fl_RX3_31 (sF_68 hS) rfl dX3_listMine_59 rfl ?_
          refine aw_iload_n (n := 63) (i := 2) dX3_listMine_62 rfl rfl rfl ?_
          refine aw_cVi (M := M_X3_listMine) (n := 66) (As := [.int v2]) (rest := [.int (gI D_5 68 2), .ref 70]) hG.1 lk_RX3_68 rfl rfl (sF_60 hS) (c_X1_everSmells hG hS (h := Ok.bi h)) (by decide) (Nat.le_of_ble_eq_true rfl) (by decide) (by decide) dX3_listMine_63 rfl (fun y_6 D_7 h => ?_)
          refine aw_if_ne (n := 69) (tgt := 73) dX3_listMine_66 rfl (by decide) (fun c => ?_) (fun c => ?_)
          · replace h := Ok.ift h c
            refine aw_aload_n (n := 74) (i := 0) dX3_listMine_73 rfl rfl rfl ?_
            refine aw_getR (n := 77) (j := 0) (r := 2) hG.1 fl_RX3_27 (sF_68 hS) rfl dX3_listMine_74 rfl ?_
            refine aw_iload_n (n := 78) (i := 2) dX3_listMine_77 rfl rfl rfl ?_
            refine aw_cVi (M := M_X3_listMine) (n := 81) (As := [.int v2]) (rest := [.int (gI D_5 68 2), .ref 70]) hG.1 lk_RX3_72 rfl rfl (sF_2 hS) (c_X6_isHerb hG hS (h := Ok.bi h)) (by decide) (Nat.le_of_ble_eq_true rfl) (by decide) (by decide) dX3_listMine_78 rfl (fun y_8 D_9 h => ?_)
            refine aw_if_eq (n := 84) (tgt := 88) dX3_listMine_81 rfl (by decide) (fun c => ?_) (fun c => ?_)
            · replace h := Ok.ift h c
              refine aw_iconst (n := 89) (v := 2) dX3_listMine_88 rfl (by decide) ?_
              exact aw_le' (hJ_89 v2 2 (gI D_5 68 2) D_9 h) ⟨rfl, ⟨rfl, ⟨rfl, trivial⟩⟩⟩
            · replace h := Ok.iff h c
              refine aw_iconst (n := 85) (v := 3) dX3_listMine_84 rfl (by decide) ?_
              refine aw_goto (tgt := 89) dX3_listMine_85 (by decide) ?_
              exact aw_le' (hJ_89 v2 3 (gI D_5 68 2) D_9 h) ⟨rfl, ⟨rfl, ⟨rfl, trivial⟩⟩⟩
          · replace h := Ok.iffn h c
            refine aw_iconst (n := 70) (v := 1) dX3_listMine_69 rfl (by decide) ?_
            refine aw_goto (tgt := 89) dX3_listMine_70 (by decide) ?_
            exact aw_le' (hJ_89 v2 1 (gI D_5 68 2) D_7 h) ⟨rfl, ⟨rfl, ⟨rfl, trivial⟩⟩⟩
  refine aw_aload_n (n := 1) (i := 0) dX3_listMine_0 rfl rfl rfl ?_
  refine aw_iconst (n := 2) (v := 0) dX3_listMine_1 rfl (by decide) ?_
  obtain ⟨D_1, e_D_1, h⟩ := Ok.let_ h
  refine aw_putI (n := 5) (j := 2) hG.1 fl_RX3_58 (sF_68 hS) rfl e_D_1 dX3_listMine_2 rfl ?_
  refine aw_iconst (n := 6) (v := 0) dX3_listMine_5 rfl (by decide) ?_
  refine aw_istore_n (n := 7) (i := 2) (al' := [some (.ref 68), some (.int v1), some (.int 0)]) dX3_listMine_6 rfl rfl rfl (by decide) rfl ?_
  exact aw_le' (hJ_7 v1 0 D_1 h) ⟨rfl, ⟨rfl, ⟨rfl, trivial⟩⟩⟩
theorem dX3_stepWay_0 : decode cX3_stepWay 0 = .ok (.aload_n 0, 1) := by decide +kernel
theorem dX3_stepWay_1 : decode cX3_stepWay 1 = .ok (.getfield 58, 3) := by decide +kernel
theorem dX3_stepWay_4 : decode cX3_stepWay 4 = .ok (.iconst 1, 1) := by decide +kernel
theorem dX3_stepWay_5 : decode cX3_stepWay 5 = .ok (.isub, 1) := by decide +kernel
theorem dX3_stepWay_6 : decode cX3_stepWay 6 = .ok (.istore_n 1, 1) := by decide +kernel
theorem dX3_stepWay_7 : decode cX3_stepWay 7 = .ok (.iload_n 1, 1) := by decide +kernel
theorem dX3_stepWay_8 : decode cX3_stepWay 8 = .ok (.ifCond .lt 69, 3) := by decide +kernel
theorem dX3_stepWay_11 : decode cX3_stepWay 11 = .ok (.aload_n 0, 1) := by decide +kernel
theorem dX3_stepWay_12 : decode cX3_stepWay 12 = .ok (.getfield 31, 3) := by decide +kernel
theorem dX3_stepWay_15 : decode cX3_stepWay 15 = .ok (.getfield 75, 3) := by decide +kernel
theorem dX3_stepWay_18 : decode cX3_stepWay 18 = .ok (.aload_n 0, 1) := by decide +kernel
theorem dX3_stepWay_19 : decode cX3_stepWay 19 = .ok (.getfield 9, 3) := by decide +kernel
theorem dX3_stepWay_22 : decode cX3_stepWay 22 = .ok (.iload_n 1, 1) := by decide +kernel
theorem dX3_stepWay_23 : decode cX3_stepWay 23 = .ok (.iaload, 1) := by decide +kernel
theorem dX3_stepWay_24 : decode cX3_stepWay 24 = .ok (.iaload, 1) := by decide +kernel
theorem dX3_stepWay_25 : decode cX3_stepWay 25 = .ok (.iconst 1, 1) := by decide +kernel
theorem dX3_stepWay_26 : decode cX3_stepWay 26 = .ok (.iadd, 1) := by decide +kernel
theorem dX3_stepWay_27 : decode cX3_stepWay 27 = .ok (.aload_n 0, 1) := by decide +kernel
theorem dX3_stepWay_28 : decode cX3_stepWay 28 = .ok (.getfield 15, 3) := by decide +kernel
theorem dX3_stepWay_31 : decode cX3_stepWay 31 = .ok (.iload_n 1, 1) := by decide +kernel
theorem dX3_stepWay_32 : decode cX3_stepWay 32 = .ok (.iaload, 1) := by decide +kernel
theorem dX3_stepWay_33 : decode cX3_stepWay 33 = .ok (.if_icmp .ge 23, 3) := by decide +kernel
theorem dX3_stepWay_36 : decode cX3_stepWay 36 = .ok (.aload_n 0, 1) := by decide +kernel
theorem dX3_stepWay_37 : decode cX3_stepWay 37 = .ok (.getfield 31, 3) := by decide +kernel
theorem dX3_stepWay_40 : decode cX3_stepWay 40 = .ok (.getfield 75, 3) := by decide +kernel
theorem dX3_stepWay_43 : decode cX3_stepWay 43 = .ok (.aload_n 0, 1) := by decide +kernel
theorem dX3_stepWay_44 : decode cX3_stepWay 44 = .ok (.getfield 9, 3) := by decide +kernel
theorem dX3_stepWay_47 : decode cX3_stepWay 47 = .ok (.iload_n 1, 1) := by decide +kernel
theorem dX3_stepWay_48 : decode cX3_stepWay 48 = .ok (.iaload, 1) := by decide +kernel
theorem dX3_stepWay_49 : decode cX3_stepWay 49 = .ok (.dup2, 1) := by decide +kernel
theorem dX3_stepWay_50 : decode cX3_stepWay 50 = .ok (.iaload, 1) := by decide +kernel
theorem dX3_stepWay_51 : decode cX3_stepWay 51 = .ok (.iconst 1, 1) := by decide +kernel
theorem dX3_stepWay_52 : decode cX3_stepWay 52 = .ok (.iadd, 1) := by decide +kernel
theorem dX3_stepWay_53 : decode cX3_stepWay 53 = .ok (.iastore, 1) := by decide +kernel
theorem dX3_stepWay_54 : decode cX3_stepWay 54 = .ok (.iconst 1, 1) := by decide +kernel
theorem dX3_stepWay_55 : decode cX3_stepWay 55 = .ok (.ireturn, 1) := by decide +kernel
theorem dX3_stepWay_56 : decode cX3_stepWay 56 = .ok (.aload_n 0, 1) := by decide +kernel
theorem dX3_stepWay_57 : decode cX3_stepWay 57 = .ok (.getfield 31, 3) := by decide +kernel
theorem dX3_stepWay_60 : decode cX3_stepWay 60 = .ok (.getfield 75, 3) := by decide +kernel
theorem dX3_stepWay_63 : decode cX3_stepWay 63 = .ok (.aload_n 0, 1) := by decide +kernel
theorem dX3_stepWay_64 : decode cX3_stepWay 64 = .ok (.getfield 9, 3) := by decide +kernel
theorem dX3_stepWay_67 : decode cX3_stepWay 67 = .ok (.iload_n 1, 1) := by decide +kernel
theorem dX3_stepWay_68 : decode cX3_stepWay 68 = .ok (.iaload, 1) := by decide +kernel
theorem dX3_stepWay_69 : decode cX3_stepWay 69 = .ok (.iconst 0, 1) := by decide +kernel
theorem dX3_stepWay_70 : decode cX3_stepWay 70 = .ok (.iastore, 1) := by decide +kernel
theorem dX3_stepWay_71 : decode cX3_stepWay 71 = .ok (.iinc 1 (-1), 3) := by decide +kernel
theorem dX3_stepWay_74 : decode cX3_stepWay 74 = .ok (.goto (-67), 3) := by decide +kernel
theorem dX3_stepWay_77 : decode cX3_stepWay 77 = .ok (.iconst 0, 1) := by decide +kernel
theorem dX3_stepWay_78 : decode cX3_stepWay 78 = .ok (.ireturn, 1) := by decide +kernel
def J_X3_stepWay_36 (v1 : Int32) (D : aD) : Option (Int32 × aD) :=
  aGd (aIn v1 6) (aGd (aIn (gI D 69 v1.toNatClampNeg) 12) (aGd (aIn (gI D 69 v1.toNatClampNeg) 12) (aLet (pI D 63 (gI D 69 v1.toNatClampNeg).toNatClampNeg ((gI D 63 (gI D 69 v1.toNatClampNeg).toNatClampNeg) + 1)) (fun D_5 => some (1, D_5)))))
def J_X3_stepWay_77 (D : aD) : Option (Int32 × aD) :=
  some (0, D)
def B_X3_stepWay_7 (v1 : Int32) (D : aD) : Option ((Int32 × aD) ⊕ ((Int32 × aD) ⊕ (aD))) :=
  if v1 < 0 then (some (.inr (.inr (D)))) else (aGd (aIn v1 6) (aGd (aIn (gI D 69 v1.toNatClampNeg) 12) (aGd (aIn v1 6) (if gI D 70 v1.toNatClampNeg ≤ (gI D 63 (gI D 69 v1.toNatClampNeg).toNatClampNeg) + 1 then (aGd (aIn v1 6) (aGd (aIn (gI D 69 v1.toNatClampNeg) 12) (aLet (pI D 63 (gI D 69 v1.toNatClampNeg).toNatClampNeg 0) (fun D_11 => aLet (v1 + (-1)) (fun v1_12 => some (.inl (v1_12, D_11))))))) else (some (.inr (.inl ((v1, D)))))))))
def J_X3_stepWay_7 (v1 : Int32) (D : aD) : Option (Int32 × aD) :=
  (aLp (fun s => B_X3_stepWay_7 s.1 s.2) (v1, D)).bind (Sum.elim (fun r => J_X3_stepWay_36 (r.1) r.2) ((fun r => J_X3_stepWay_77 r)))
def f_X3_stepWay (D : aD) : Option (Int32 × aD) :=
  aLet ((gI D 68 2) - 1) (fun v1_1 => J_X3_stepWay_7 v1_1 D)
set_option maxRecDepth 100000 in
set_option maxHeartbeats 800000 in
theorem c_X3_stepWay {G : aG} (hG : gOK G) {shp : List aSh} (hS : aShp shp) {fr : Option Nat} {D : aD} {K : Int32 → aD → Prop} (h : Ok2 (f_X3_stepWay D) K) : AC G (aRm 1 0 0) M_X3_stepWay [.ref 68] fr shp D (aQi shp K) := by
  replace h := Ok2.ok h
  unfold f_X3_stepWay at h
  refine AC.of (al := [some (.ref 68), none]) (r := 1) (by decide) (Nat.le_of_ble_eq_true rfl) rfl ?_
  have hJ_36 : ∀ (v1 : Int32) (D : aD), Ok (J_X3_stepWay_36 v1 D) (fun r => K r.1 r.2) → AW G (aRm 1 0 0) M_X3_stepWay fr 0 0 36 [some (.ref 68), some (.int v1)] [] shp D (aQi shp K) := by
    intro v1 D h
    unfold J_X3_stepWay_36 at h
    refine aw_aload_n (n := 37) (i := 0) dX3_stepWay_36 rfl rfl rfl ?_
    refine aw_getR (n := 40) (j := 1) (r := 60) hG.1 fl_RX3_31 (sF_68 hS) rfl dX3_stepWay_37 rfl ?_
    refine aw_getR (n := 43) (j := 6) (r := 63) hG.1 fl_RX3_75 (sF_60 hS) rfl dX3_stepWay_40 rfl ?_
    refine aw_aload_n (n := 44) (i := 0) dX3_stepWay_43 rfl rfl rfl ?_
    refine aw_getR (n := 47) (j := 3) (r := 69) hG.1 fl_RX3_9 (sF_68 hS) rfl dX3_stepWay_44 rfl ?_
    refine aw_iload_n (n := 48) (i := 1) dX3_stepWay_47 rfl rfl rfl ?_
    obtain ⟨g_2, h⟩ := Ok.gd h
    refine aw_iaload (n := 49) hG.1 (sF_69 hS) (aIn_in g_2) dX3_stepWay_48 rfl ?_
    refine aw_dup2 (n := 50) dX3_stepWay_49 rfl rfl rfl ?_
    obtain ⟨g_3, h⟩ := Ok.gd h
    refine aw_iaload (n := 51) hG.1 (sF_63 hS) (aIn_in g_3) dX3_stepWay_50 rfl ?_
    refine aw_iconst (n := 52) (v := 1) dX3_stepWay_51 rfl (by decide) ?_
    refine aw_iadd (n := 53) dX3_stepWay_52 rfl ?_
    obtain ⟨g_4, h⟩ := Ok.gd h
    obtain ⟨D_5, e_D_5, h⟩ := Ok.let_ h
    refine aw_iastore (n := 54) hG.1 (sF_63 hS) (aIn_in g_4) e_D_5 dX3_stepWay_53 rfl ?_
    refine aw_iconst (n := 55) (v := 1) dX3_stepWay_54 rfl (by decide) ?_
    exact aw_zret rfl (by decide) (by decide) (by decide) dX3_stepWay_55 ⟨_, rfl, rfl, (Ok.dn h :)⟩
  have hJ_77 : ∀ (D : aD), Ok (J_X3_stepWay_77 D) (fun r => K r.1 r.2) → AW G (aRm 1 0 0) M_X3_stepWay fr 0 0 77 [none, none] [] shp D (aQi shp K) := by
    intro D h
    unfold J_X3_stepWay_77 at h
    refine aw_iconst (n := 78) (v := 0) dX3_stepWay_77 rfl (by decide) ?_
    exact aw_zret rfl (by decide) (by decide) (by decide) dX3_stepWay_78 ⟨_, rfl, rfl, (Ok.dn h :)⟩
  have hJ_7 : ∀ (v1 : Int32) (D : aD), Ok (J_X3_stepWay_7 v1 D) (fun r => K r.1 r.2) → AW G (aRm 1 0 0) M_X3_stepWay fr 0 0 7 [some (.ref 68), some (.int v1)] [] shp D (aQi shp K) := by
    intro v1 D h
    unfold J_X3_stepWay_7 at h
    refine Ok.lp (P := fun s => AW G (aRm 1 0 0) M_X3_stepWay fr 0 0 7 [some (.ref 68), some (.int (s.1))] [] shp s.2 (aQi shp K)) (fun s Kb7 hL7 hR7 h => ?_) (v1, D) (Ok.bind h)
    obtain ⟨v1, D⟩ := s
    replace h : Ok (B_X3_stepWay_7 v1 D) Kb7 := h
    unfold B_X3_stepWay_7 at h
    refine aw_iload_n (n := 8) (i := 1) dX3_stepWay_7 rfl rfl rfl ?_
    refine aw_if_lt (n := 11) (tgt := 77) dX3_stepWay_8 rfl (by decide) (fun c => ?_) (fun c => ?_)
    · replace h := Ok.ift h c
      exact aw_le' (hJ_77 D (Ok.er (hR7 (.inr (D)) (Ok.dn h :)) :)) trivial
    · replace h := Ok.iff h c
      refine aw_aload_n (n := 12) (i := 0) dX3_stepWay_11 rfl rfl rfl ?_
      refine aw_getR (n := 15) (j := 1) (r := 60) hG.1 fl_RX3_31 (sF_68 hS) rfl dX3_stepWay_12 rfl ?_
      refine aw_getR (n := 18) (j := 6) (r := 63) hG.1 fl_RX3_75 (sF_60 hS) rfl dX3_stepWay_15 rfl ?_
      refine aw_aload_n (n := 19) (i := 0) dX3_stepWay_18 rfl rfl rfl ?_
      refine aw_getR (n := 22) (j := 3) (r := 69) hG.1 fl_RX3_9 (sF_68 hS) rfl dX3_stepWay_19 rfl ?_
      refine aw_iload_n (n := 23) (i := 1) dX3_stepWay_22 rfl rfl rfl ?_
      obtain ⟨g_6, h⟩ := Ok.gd h
      refine aw_iaload (n := 24) hG.1 (sF_69 hS) (aIn_in g_6) dX3_stepWay_23 rfl ?_
      obtain ⟨g_7, h⟩ := Ok.gd h
      refine aw_iaload (n := 25) hG.1 (sF_63 hS) (aIn_in g_7) dX3_stepWay_24 rfl ?_
      refine aw_iconst (n := 26) (v := 1) dX3_stepWay_25 rfl (by decide) ?_
      refine aw_iadd (n := 27) dX3_stepWay_26 rfl ?_
      refine aw_aload_n (n := 28) (i := 0) dX3_stepWay_27 rfl rfl rfl ?_
      refine aw_getR (n := 31) (j := 4) (r := 70) hG.1 fl_RX3_15 (sF_68 hS) rfl dX3_stepWay_28 rfl ?_
      refine aw_iload_n (n := 32) (i := 1) dX3_stepWay_31 rfl rfl rfl ?_
      obtain ⟨g_8, h⟩ := Ok.gd h
      refine aw_iaload (n := 33) hG.1 (sF_70 hS) (aIn_in g_8) dX3_stepWay_32 rfl ?_
      refine aw_icmp_ge (n := 36) (tgt := 56) dX3_stepWay_33 rfl (by decide) (fun c => ?_) (fun c => ?_)
      · replace h := Ok.ift h c
        refine aw_aload_n (n := 57) (i := 0) dX3_stepWay_56 rfl rfl rfl ?_
        refine aw_getR (n := 60) (j := 1) (r := 60) hG.1 fl_RX3_31 (sF_68 hS) rfl dX3_stepWay_57 rfl ?_
        refine aw_getR (n := 63) (j := 6) (r := 63) hG.1 fl_RX3_75 (sF_60 hS) rfl dX3_stepWay_60 rfl ?_
        refine aw_aload_n (n := 64) (i := 0) dX3_stepWay_63 rfl rfl rfl ?_
        refine aw_getR (n := 67) (j := 3) (r := 69) hG.1 fl_RX3_9 (sF_68 hS) rfl dX3_stepWay_64 rfl ?_
        refine aw_iload_n (n := 68) (i := 1) dX3_stepWay_67 rfl rfl rfl ?_
        obtain ⟨g_9, h⟩ := Ok.gd h
        refine aw_iaload (n := 69) hG.1 (sF_69 hS) (aIn_in g_9) dX3_stepWay_68 rfl ?_
        refine aw_iconst (n := 70) (v := 0) dX3_stepWay_69 rfl (by decide) ?_
        obtain ⟨g_10, h⟩ := Ok.gd h
        obtain ⟨D_11, e_D_11, h⟩ := Ok.let_ h
        refine aw_iastore (n := 71) hG.1 (sF_63 hS) (aIn_in g_10) e_D_11 dX3_stepWay_70 rfl ?_
        obtain ⟨v1_12, e_v1_12, h⟩ := Ok.let_ h
        refine aw_iinc (n := 74) (al' := [some (.ref 68), some (.int v1_12)]) dX3_stepWay_71 rfl rfl e_v1_12 (by decide) rfl ?_
        refine aw_goto (tgt := 7) dX3_stepWay_74 (by decide) ?_
        exact aw_le' (hL7 (v1_12, D_11) (Ok.dn h :)) ⟨rfl, ⟨rfl, trivial⟩⟩
      · replace h := Ok.iff h c
        exact aw_le' (hJ_36 v1 D (Ok.el (hR7 (.inl ((v1, D))) (Ok.dn h :)) :)) ⟨rfl, ⟨rfl, trivial⟩⟩
  refine aw_aload_n (n := 1) (i := 0) dX3_stepWay_0 rfl rfl rfl ?_
  refine aw_getI (n := 4) (j := 2) hG.1 fl_RX3_58 (sF_68 hS) rfl dX3_stepWay_1 rfl ?_
  refine aw_iconst (n := 5) (v := 1) dX3_stepWay_4 rfl (by decide) ?_
  refine aw_isub (n := 6) dX3_stepWay_5 rfl ?_
  obtain ⟨v1_1, e_v1_1, h⟩ := Ok.let_ h
  refine aw_istore_n (n := 7) (i := 1) (al' := [some (.ref 68), some (.int v1_1)]) dX3_stepWay_6 rfl rfl e_v1_1 (by decide) rfl ?_
  exact aw_le' (hJ_7 v1_1 D h) ⟨rfl, ⟨rfl, trivial⟩⟩
theorem dX3_keepRow_0 : decode cX3_keepRow 0 = .ok (.iconst 0, 1) := by decide +kernel
theorem dX3_keepRow_1 : decode cX3_keepRow 1 = .ok (.istore_n 1, 1) := by decide +kernel
theorem dX3_keepRow_2 : decode cX3_keepRow 2 = .ok (.iload_n 1, 1) := by decide +kernel
theorem dX3_keepRow_3 : decode cX3_keepRow 3 = .ok (.aload_n 0, 1) := by decide +kernel
theorem dX3_keepRow_4 : decode cX3_keepRow 4 = .ok (.getfield 58, 3) := by decide +kernel
theorem dX3_keepRow_7 : decode cX3_keepRow 7 = .ok (.if_icmp .ge 29, 3) := by decide +kernel
theorem dX3_keepRow_10 : decode cX3_keepRow 10 = .ok (.aload_n 0, 1) := by decide +kernel
theorem dX3_keepRow_11 : decode cX3_keepRow 11 = .ok (.getfield 21, 3) := by decide +kernel
theorem dX3_keepRow_14 : decode cX3_keepRow 14 = .ok (.iload_n 1, 1) := by decide +kernel
theorem dX3_keepRow_15 : decode cX3_keepRow 15 = .ok (.aload_n 0, 1) := by decide +kernel
theorem dX3_keepRow_16 : decode cX3_keepRow 16 = .ok (.getfield 31, 3) := by decide +kernel
theorem dX3_keepRow_19 : decode cX3_keepRow 19 = .ok (.getfield 75, 3) := by decide +kernel
theorem dX3_keepRow_22 : decode cX3_keepRow 22 = .ok (.aload_n 0, 1) := by decide +kernel
theorem dX3_keepRow_23 : decode cX3_keepRow 23 = .ok (.getfield 9, 3) := by decide +kernel
theorem dX3_keepRow_26 : decode cX3_keepRow 26 = .ok (.iload_n 1, 1) := by decide +kernel
theorem dX3_keepRow_27 : decode cX3_keepRow 27 = .ok (.iaload, 1) := by decide +kernel
theorem dX3_keepRow_28 : decode cX3_keepRow 28 = .ok (.iaload, 1) := by decide +kernel
theorem dX3_keepRow_29 : decode cX3_keepRow 29 = .ok (.iastore, 1) := by decide +kernel
theorem dX3_keepRow_30 : decode cX3_keepRow 30 = .ok (.iinc 1 1, 3) := by decide +kernel
theorem dX3_keepRow_33 : decode cX3_keepRow 33 = .ok (.goto (-31), 3) := by decide +kernel
theorem dX3_keepRow_36 : decode cX3_keepRow 36 = .ok (.return_, 1) := by decide +kernel
def J_X3_keepRow_36 (D : aD) : Option (aD) :=
  some D
def B_X3_keepRow_2 (v1 : Int32) (D : aD) : Option ((Int32 × aD) ⊕ ((aD))) :=
  if gI D 68 2 ≤ v1 then (some (.inr D)) else (aGd (aIn v1 6) (aGd (aIn (gI D 69 v1.toNatClampNeg) 12) (aGd (aIn v1 6) (aLet (pI D 72 v1.toNatClampNeg (gI D 63 (gI D 69 v1.toNatClampNeg).toNatClampNeg)) (fun D_4 => aLet (v1 + 1) (fun v1_5 => some (.inl (v1_5, D_4))))))))
def J_X3_keepRow_2 (v1 : Int32) (D : aD) : Option (aD) :=
  (aLp (fun s => B_X3_keepRow_2 s.1 s.2) (v1, D)).bind (fun r => J_X3_keepRow_36 r)
def f_X3_keepRow (D : aD) : Option (aD) :=
  J_X3_keepRow_2 0 D
set_option maxRecDepth 100000 in
set_option maxHeartbeats 800000 in
theorem c_X3_keepRow {G : aG} (hG : gOK G) {shp : List aSh} (hS : aShp shp) {fr : Option Nat} {D : aD} {K : aD → Prop} (h : Ok (f_X3_keepRow D) K) : AC G (aRm 1 0 0) M_X3_keepRow [.ref 68] fr shp D (aQv shp K) := by
  unfold f_X3_keepRow at h
  refine AC.of (al := [some (.ref 68), none]) (r := 1) (by decide) (Nat.le_of_ble_eq_true rfl) rfl ?_
  have hJ_36 : ∀ (D : aD), Ok (J_X3_keepRow_36 D) K → AW G (aRm 1 0 0) M_X3_keepRow fr 0 0 36 [none, none] [] shp D (aQv shp K) := by
    intro D h
    unfold J_X3_keepRow_36 at h
    exact aw_vret rfl (by decide) (by decide) dX3_keepRow_36 ⟨rfl, rfl, (Ok.dn h :)⟩
  have hJ_2 : ∀ (v1 : Int32) (D : aD), Ok (J_X3_keepRow_2 v1 D) K → AW G (aRm 1 0 0) M_X3_keepRow fr 0 0 2 [some (.ref 68), some (.int v1)] [] shp D (aQv shp K) := by
    intro v1 D h
    unfold J_X3_keepRow_2 at h
    refine Ok.lp (P := fun s => AW G (aRm 1 0 0) M_X3_keepRow fr 0 0 2 [some (.ref 68), some (.int (s.1))] [] shp s.2 (aQv shp K)) (fun s Kb2 hL2 hR2 h => ?_) (v1, D) (Ok.bind h)
    obtain ⟨v1, D⟩ := s
    replace h : Ok (B_X3_keepRow_2 v1 D) Kb2 := h
    unfold B_X3_keepRow_2 at h
    refine aw_iload_n (n := 3) (i := 1) dX3_keepRow_2 rfl rfl rfl ?_
    refine aw_aload_n (n := 4) (i := 0) dX3_keepRow_3 rfl rfl rfl ?_
    refine aw_getI (n := 7) (j := 2) hG.1 fl_RX3_58 (sF_68 hS) rfl dX3_keepRow_4 rfl ?_
    refine aw_icmp_ge (n := 10) (tgt := 36) dX3_keepRow_7 rfl (by decide) (fun c => ?_) (fun c => ?_)
    · replace h := Ok.ift h c
      exact aw_le' (hJ_36 D (hR2 D (Ok.dn h :))) trivial
    · replace h := Ok.iff h c
      refine aw_aload_n (n := 11) (i := 0) dX3_keepRow_10 rfl rfl rfl ?_
      refine aw_getR (n := 14) (j := 6) (r := 72) hG.1 fl_RX3_21 (sF_68 hS) rfl dX3_keepRow_11 rfl ?_
      refine aw_iload_n (n := 15) (i := 1) dX3_keepRow_14 rfl rfl rfl ?_
      refine aw_aload_n (n := 16) (i := 0) dX3_keepRow_15 rfl rfl rfl ?_
      refine aw_getR (n := 19) (j := 1) (r := 60) hG.1 fl_RX3_31 (sF_68 hS) rfl dX3_keepRow_16 rfl ?_
      refine aw_getR (n := 22) (j := 6) (r := 63) hG.1 fl_RX3_75 (sF_60 hS) rfl dX3_keepRow_19 rfl ?_
      refine aw_aload_n (n := 23) (i := 0) dX3_keepRow_22 rfl rfl rfl ?_
      refine aw_getR (n := 26) (j := 3) (r := 69) hG.1 fl_RX3_9 (sF_68 hS) rfl dX3_keepRow_23 rfl ?_
      refine aw_iload_n (n := 27) (i := 1) dX3_keepRow_26 rfl rfl rfl ?_
      obtain ⟨g_1, h⟩ := Ok.gd h
      refine aw_iaload (n := 28) hG.1 (sF_69 hS) (aIn_in g_1) dX3_keepRow_27 rfl ?_
      obtain ⟨g_2, h⟩ := Ok.gd h
      refine aw_iaload (n := 29) hG.1 (sF_63 hS) (aIn_in g_2) dX3_keepRow_28 rfl ?_
      obtain ⟨g_3, h⟩ := Ok.gd h
      obtain ⟨D_4, e_D_4, h⟩ := Ok.let_ h
      refine aw_iastore (n := 30) hG.1 (sF_72 hS) (aIn_in g_3) e_D_4 dX3_keepRow_29 rfl ?_
      obtain ⟨v1_5, e_v1_5, h⟩ := Ok.let_ h
      refine aw_iinc (n := 33) (al' := [some (.ref 68), some (.int v1_5)]) dX3_keepRow_30 rfl rfl e_v1_5 (by decide) rfl ?_
      refine aw_goto (tgt := 2) dX3_keepRow_33 (by decide) ?_
      exact aw_le' (hL2 (v1_5, D_4) (Ok.dn h :)) ⟨rfl, ⟨rfl, trivial⟩⟩
  refine aw_iconst (n := 1) (v := 0) dX3_keepRow_0 rfl (by decide) ?_
  refine aw_istore_n (n := 2) (i := 1) (al' := [some (.ref 68), some (.int 0)]) dX3_keepRow_1 rfl rfl rfl (by decide) rfl ?_
  exact aw_le' (hJ_2 0 D h) ⟨rfl, ⟨rfl, trivial⟩⟩
theorem dX3_tune_0 : decode cX3_tune 0 = .ok (.aload_n 0, 1) := by decide +kernel
theorem dX3_tune_1 : decode cX3_tune 1 = .ok (.iload_n 1, 1) := by decide +kernel
theorem dX3_tune_2 : decode cX3_tune 2 = .ok (.invokevirtual 35, 3) := by decide +kernel
theorem dX3_tune_5 : decode cX3_tune 5 = .ok (.aload_n 0, 1) := by decide +kernel
theorem dX3_tune_6 : decode cX3_tune 6 = .ok (.getfield 27, 3) := by decide +kernel
theorem dX3_tune_9 : decode cX3_tune 9 = .ok (.invokevirtual 39, 3) := by decide +kernel
theorem dX3_tune_12 : decode cX3_tune 12 = .ok (.istore_n 3, 1) := by decide +kernel
theorem dX3_tune_13 : decode cX3_tune 13 = .ok (.iload_n 2, 1) := by decide +kernel
theorem dX3_tune_14 : decode cX3_tune 14 = .ok (.istore 4, 2) := by decide +kernel
theorem dX3_tune_16 : decode cX3_tune 16 = .ok (.iconst 1, 1) := by decide +kernel
theorem dX3_tune_17 : decode cX3_tune 17 = .ok (.istore 5, 2) := by decide +kernel
theorem dX3_tune_19 : decode cX3_tune 19 = .ok (.iconst 0, 1) := by decide +kernel
theorem dX3_tune_20 : decode cX3_tune 20 = .ok (.istore 6, 2) := by decide +kernel
theorem dX3_tune_22 : decode cX3_tune 22 = .ok (.iload 6, 2) := by decide +kernel
theorem dX3_tune_24 : decode cX3_tune 24 = .ok (.sipush 729, 3) := by decide +kernel
theorem dX3_tune_27 : decode cX3_tune 27 = .ok (.if_icmp .ge 53, 3) := by decide +kernel
theorem dX3_tune_30 : decode cX3_tune 30 = .ok (.iload 5, 2) := by decide +kernel
theorem dX3_tune_32 : decode cX3_tune 32 = .ok (.ifCond .eq 48, 3) := by decide +kernel
theorem dX3_tune_35 : decode cX3_tune 35 = .ok (.iload 4, 2) := by decide +kernel
theorem dX3_tune_37 : decode cX3_tune 37 = .ok (.iload_n 3, 1) := by decide +kernel
theorem dX3_tune_38 : decode cX3_tune 38 = .ok (.if_icmp .ge 42, 3) := by decide +kernel
theorem dX3_tune_41 : decode cX3_tune 41 = .ok (.aload_n 0, 1) := by decide +kernel
theorem dX3_tune_42 : decode cX3_tune 42 = .ok (.getfield 31, 3) := by decide +kernel
theorem dX3_tune_45 : decode cX3_tune 45 = .ok (.iload_n 1, 1) := by decide +kernel
theorem dX3_tune_46 : decode cX3_tune 46 = .ok (.iload 4, 2) := by decide +kernel
theorem dX3_tune_48 : decode cX3_tune 48 = .ok (.invokevirtual 45, 3) := by decide +kernel
theorem dX3_tune_51 : decode cX3_tune 51 = .ok (.istore 7, 2) := by decide +kernel
theorem dX3_tune_53 : decode cX3_tune 53 = .ok (.iload 7, 2) := by decide +kernel
theorem dX3_tune_55 : decode cX3_tune 55 = .ok (.iload 4, 2) := by decide +kernel
theorem dX3_tune_57 : decode cX3_tune 57 = .ok (.if_icmp .le 11, 3) := by decide +kernel
theorem dX3_tune_60 : decode cX3_tune 60 = .ok (.iload 7, 2) := by decide +kernel
theorem dX3_tune_62 : decode cX3_tune 62 = .ok (.istore 4, 2) := by decide +kernel
theorem dX3_tune_64 : decode cX3_tune 64 = .ok (.aload_n 0, 1) := by decide +kernel
theorem dX3_tune_65 : decode cX3_tune 65 = .ok (.invokevirtual 51, 3) := by decide +kernel
theorem dX3_tune_68 : decode cX3_tune 68 = .ok (.aload_n 0, 1) := by decide +kernel
theorem dX3_tune_69 : decode cX3_tune 69 = .ok (.invokevirtual 54, 3) := by decide +kernel
theorem dX3_tune_72 : decode cX3_tune 72 = .ok (.istore 5, 2) := by decide +kernel
theorem dX3_tune_74 : decode cX3_tune 74 = .ok (.iinc 6 1, 3) := by decide +kernel
theorem dX3_tune_77 : decode cX3_tune 77 = .ok (.goto (-55), 3) := by decide +kernel
theorem dX3_tune_80 : decode cX3_tune 80 = .ok (.iload 4, 2) := by decide +kernel
theorem dX3_tune_82 : decode cX3_tune 82 = .ok (.ireturn, 1) := by decide +kernel
def J_X3_tune_80 (v4 : Int32) (D : aD) : Option (Int32 × aD) :=
  some (v4, D)
def J_X3_tune_68 (v1 : Int32) (v3 : Int32) (v4 : Int32) (v6 : Int32) (D : aD) : Option ((Int32 × Int32 × Int32 × aD) ⊕ ((Int32 × aD))) :=
  aBi (f_X3_stepWay D) (fun y_6 D_7 => aLet (v6 + 1) (fun v6_8 => some (.inl (v4, y_6, v6_8, D_7))))
def B_X3_tune_22 (v1 : Int32) (v3 : Int32) (v4 : Int32) (v5 : Int32) (v6 : Int32) (D : aD) : Option ((Int32 × Int32 × Int32 × aD) ⊕ ((Int32 × aD))) :=
  if 729 ≤ v6 then (some (.inr (v4, D))) else (if v5 = 0 then (some (.inr (v4, D))) else (if v3 ≤ v4 then (some (.inr (v4, D))) else (aBi (f_X1_weightsWon v1 v4 D) (fun y_4 D_5 => if y_4 ≤ v4 then (J_X3_tune_68 v1 v3 v4 v6 D_5) else ((f_X3_keepRow D_5).bind (fun D_9 => J_X3_tune_68 v1 v3 y_4 v6 D_9))))))
def J_X3_tune_22 (v1 : Int32) (v3 : Int32) (v4 : Int32) (v5 : Int32) (v6 : Int32) (D : aD) : Option (Int32 × aD) :=
  (aLp (fun s => B_X3_tune_22 v1 v3 s.1 s.2.1 s.2.2.1 s.2.2.2) (v4, v5, v6, D)).bind (fun r => J_X3_tune_80 (r.1) r.2)
def f_X3_tune (v1 : Int32) (v2 : Int32) (D : aD) : Option (Int32 × aD) :=
  (f_X3_listMine v1 D).bind (fun D_1 => aBi (f_X6_allWeights D_1) (fun y_2 D_3 => J_X3_tune_22 v1 y_2 v2 1 0 D_3))
set_option maxRecDepth 100000 in
set_option maxHeartbeats 800000 in
theorem c_X3_tune {G : aG} (hG : gOK G) {shp : List aSh} (hS : aShp shp) {fr : Option Nat} {v1 : Int32} {v2 : Int32} {D : aD} {K : Int32 → aD → Prop} (h : Ok2 (f_X3_tune v1 v2 D) K) : AC G (aRm 5 0 0) M_X3_tune [.ref 68, .int v1, .int v2] fr shp D (aQi shp K) := by
  replace h := Ok2.ok h
  unfold f_X3_tune at h
  refine AC.of (al := [some (.ref 68), some (.int v1), some (.int v2), none, none, none, none, none]) (r := 5) (by decide) (Nat.le_of_ble_eq_true rfl) rfl ?_
  have hJ_80 : ∀ (v4 : Int32) (D : aD), Ok (J_X3_tune_80 v4 D) (fun r => K r.1 r.2) → AW G (aRm 5 0 0) M_X3_tune fr 0 0 80 [none, none, none, none, some (.int v4), none, none, none] [] shp D (aQi shp K) := by
    intro v4 D h
    unfold J_X3_tune_80 at h
    refine aw_iload (n := 82) (i := 4) dX3_tune_80 rfl rfl ?_
    exact aw_iret rfl (by decide) (by decide) dX3_tune_82 ⟨_, rfl, rfl, (Ok.dn h :)⟩
  have hJ_22 : ∀ (v1 : Int32) (v3 : Int32) (v4 : Int32) (v5 : Int32) (v6 : Int32) (D : aD), Ok (J_X3_tune_22 v1 v3 v4 v5 v6 D) (fun r => K r.1 r.2) → AW G (aRm 5 0 0) M_X3_tune fr 0 0 22 [some (.ref 68), some (.int v1), none, some (.int v3), some (.int v4), some (.int v5), some (.int v6), none] [] shp D (aQi shp K) := by
    intro v1 v3 v4 v5 v6 D h
    unfold J_X3_tune_22 at h
    refine Ok.lp (P := fun s => AW G (aRm 5 0 0) M_X3_tune fr 0 0 22 [some (.ref 68), some (.int v1), none, some (.int v3), some (.int (s.1)), some (.int (s.2.1)), some (.int (s.2.2.1)), none] [] shp s.2.2.2 (aQi shp K)) (fun s Kb22 hL22 hR22 h => ?_) (v4, v5, v6, D) (Ok.bind h)
    obtain ⟨v4, v5, v6, D⟩ := s
    replace h : Ok (B_X3_tune_22 v1 v3 v4 v5 v6 D) Kb22 := h
    unfold B_X3_tune_22 at h
    have hJ_68 : ∀ (v4 : Int32) (v6 : Int32) (D : aD), Ok (J_X3_tune_68 v1 v3 v4 v6 D) Kb22 → AW G (aRm 5 0 0) M_X3_tune fr 0 0 68 [some (.ref 68), some (.int v1), none, some (.int v3), some (.int v4), none, some (.int v6), none] [] shp D (aQi shp K) := by
      intro v4 v6 D h
      unfold J_X3_tune_68 at h
      refine aw_aload_n (n := 69) (i := 0) dX3_tune_68 rfl rfl rfl ?_
      refine aw_cVi (M := M_X3_tune) (n := 72) (As := []) (rest := []) hG.1 lk_RX3_54 rfl rfl (sF_68 hS) (c_X3_stepWay hG hS (h := Ok.bi h)) (by decide) (Nat.le_of_ble_eq_true rfl) (by decide) (by decide) dX3_tune_69 rfl (fun y_6 D_7 h => ?_)
      refine aw_istore (n := 74) (i := 5) (al' := [some (.ref 68), some (.int v1), none, some (.int v3), some (.int v4), some (.int y_6), some (.int v6), none]) dX3_tune_72 rfl rfl (by decide) rfl ?_
      obtain ⟨v6_8, e_v6_8, h⟩ := Ok.let_ h
      refine aw_iinc (n := 77) (al' := [some (.ref 68), some (.int v1), none, some (.int v3), some (.int v4), some (.int y_6), some (.int v6_8), none]) dX3_tune_74 rfl rfl e_v6_8 (by decide) rfl ?_
      refine aw_goto (tgt := 22) dX3_tune_77 (by decide) ?_
      exact aw_le' (hL22 (v4, y_6, v6_8, D_7) (Ok.dn h :)) ⟨rfl, ⟨rfl, ⟨rfl, ⟨rfl, ⟨rfl, ⟨rfl, trivial⟩⟩⟩⟩⟩⟩
    refine aw_iload (n := 24) (i := 6) dX3_tune_22 rfl rfl ?_
    refine aw_sipush (n := 27) (v := 729) dX3_tune_24 rfl (by decide) ?_
    refine aw_icmp_ge (n := 30) (tgt := 80) dX3_tune_27 rfl (by decide) (fun c => ?_) (fun c => ?_)
    · replace h := Ok.ift h c
      exact aw_le' (hJ_80 v4 D (hR22 (v4, D) (Ok.dn h :))) ⟨rfl, trivial⟩
    · replace h := Ok.iff h c
      refine aw_iload (n := 32) (i := 5) dX3_tune_30 rfl rfl ?_
      refine aw_if_eq (n := 35) (tgt := 80) dX3_tune_32 rfl (by decide) (fun c => ?_) (fun c => ?_)
      · replace h := Ok.ift h c
        exact aw_le' (hJ_80 v4 D (hR22 (v4, D) (Ok.dn h :))) ⟨rfl, trivial⟩
      · replace h := Ok.iff h c
        refine aw_iload (n := 37) (i := 4) dX3_tune_35 rfl rfl ?_
        refine aw_iload_n (n := 38) (i := 3) dX3_tune_37 rfl rfl rfl ?_
        refine aw_icmp_ge (n := 41) (tgt := 80) dX3_tune_38 rfl (by decide) (fun c => ?_) (fun c => ?_)
        · replace h := Ok.ift h c
          exact aw_le' (hJ_80 v4 D (hR22 (v4, D) (Ok.dn h :))) ⟨rfl, trivial⟩
        · replace h := Ok.iff h c
          refine aw_aload_n (n := 42) (i := 0) dX3_tune_41 rfl rfl rfl ?_
          refine aw_getR (n := 45) (j := 1) (r := 60) hG.1 fl_RX3_31 (sF_68 hS) rfl dX3_tune_42 rfl ?_
          refine aw_iload_n (n := 46) (i := 1) dX3_tune_45 rfl rfl rfl ?_
          refine aw_iload (n := 48) (i := 4) dX3_tune_46 rfl rfl ?_
          refine aw_cVi (M := M_X3_tune) (n := 51) (As := [.int v1, .int v4]) (rest := []) hG.1 lk_RX3_45 rfl rfl (sF_60 hS) (c_X1_weightsWon hG hS (h := Ok.bi h)) (by decide) (Nat.le_of_ble_eq_true rfl) (by decide) (by decide) dX3_tune_48 rfl (fun y_4 D_5 h => ?_)
          refine aw_istore (n := 53) (i := 7) (al' := [some (.ref 68), some (.int v1), none, some (.int v3), some (.int v4), some (.int v5), some (.int v6), some (.int y_4)]) dX3_tune_51 rfl rfl (by decide) rfl ?_
          refine aw_iload (n := 55) (i := 7) dX3_tune_53 rfl rfl ?_
          refine aw_iload (n := 57) (i := 4) dX3_tune_55 rfl rfl ?_
          refine aw_icmp_le (n := 60) (tgt := 68) dX3_tune_57 rfl (by decide) (fun c => ?_) (fun c => ?_)
          · replace h := Ok.ift h c
            exact aw_le' (hJ_68 v4 v6 D_5 h) ⟨rfl, ⟨rfl, ⟨rfl, ⟨rfl, ⟨rfl, trivial⟩⟩⟩⟩⟩
          · replace h := Ok.iff h c
            refine aw_iload (n := 62) (i := 7) dX3_tune_60 rfl rfl ?_
            refine aw_istore (n := 64) (i := 4) (al' := [some (.ref 68), some (.int v1), none, some (.int v3), some (.int y_4), some (.int v5), some (.int v6), some (.int y_4)]) dX3_tune_62 rfl rfl (by decide) rfl ?_
            refine aw_aload_n (n := 65) (i := 0) dX3_tune_64 rfl rfl rfl ?_
            refine aw_cVv (M := M_X3_tune) (n := 68) (As := []) (rest := []) hG.1 lk_RX3_51 rfl rfl (sF_68 hS) (c_X3_keepRow hG hS (h := Ok.bind h)) (by decide) (Nat.le_of_ble_eq_true rfl) (by decide) (by decide) dX3_tune_65 rfl (fun D_9 h => ?_)
            exact aw_le' (hJ_68 y_4 v6 D_9 h) ⟨rfl, ⟨rfl, ⟨rfl, ⟨rfl, ⟨rfl, trivial⟩⟩⟩⟩⟩
  refine aw_aload_n (n := 1) (i := 0) dX3_tune_0 rfl rfl rfl ?_
  refine aw_iload_n (n := 2) (i := 1) dX3_tune_1 rfl rfl rfl ?_
  refine aw_cVv (M := M_X3_tune) (n := 5) (As := [.int v1]) (rest := []) hG.1 lk_RX3_35 rfl rfl (sF_68 hS) (c_X3_listMine hG hS (h := Ok.bind h)) (by decide) (Nat.le_of_ble_eq_true rfl) (by decide) (by decide) dX3_tune_2 rfl (fun D_1 h => ?_)
  refine aw_aload_n (n := 6) (i := 0) dX3_tune_5 rfl rfl rfl ?_
  refine aw_getR (n := 9) (j := 0) (r := 2) hG.1 fl_RX3_27 (sF_68 hS) rfl dX3_tune_6 rfl ?_
  refine aw_cVi (M := M_X3_tune) (n := 12) (As := []) (rest := []) hG.1 lk_RX3_39 rfl rfl (sF_2 hS) (c_X6_allWeights hG hS (h := Ok.bi h)) (by decide) (Nat.le_of_ble_eq_true rfl) (by decide) (by decide) dX3_tune_9 rfl (fun y_2 D_3 h => ?_)
  refine aw_istore_n (n := 13) (i := 3) (al' := [some (.ref 68), some (.int v1), some (.int v2), some (.int y_2), none, none, none, none]) dX3_tune_12 rfl rfl rfl (by decide) rfl ?_
  refine aw_iload_n (n := 14) (i := 2) dX3_tune_13 rfl rfl rfl ?_
  refine aw_istore (n := 16) (i := 4) (al' := [some (.ref 68), some (.int v1), some (.int v2), some (.int y_2), some (.int v2), none, none, none]) dX3_tune_14 rfl rfl (by decide) rfl ?_
  refine aw_iconst (n := 17) (v := 1) dX3_tune_16 rfl (by decide) ?_
  refine aw_istore (n := 19) (i := 5) (al' := [some (.ref 68), some (.int v1), some (.int v2), some (.int y_2), some (.int v2), some (.int 1), none, none]) dX3_tune_17 rfl rfl (by decide) rfl ?_
  refine aw_iconst (n := 20) (v := 0) dX3_tune_19 rfl (by decide) ?_
  refine aw_istore (n := 22) (i := 6) (al' := [some (.ref 68), some (.int v1), some (.int v2), some (.int y_2), some (.int v2), some (.int 1), some (.int 0), none]) dX3_tune_20 rfl rfl (by decide) rfl ?_
  exact aw_le' (hJ_22 v1 y_2 v2 1 0 D_3 h) ⟨rfl, ⟨rfl, ⟨rfl, ⟨rfl, ⟨rfl, ⟨rfl, trivial⟩⟩⟩⟩⟩⟩
theorem dX3_tunedRow_0 : decode cX3_tunedRow 0 = .ok (.iconst 0, 1) := by decide +kernel
theorem dX3_tunedRow_1 : decode cX3_tunedRow 1 = .ok (.istore_n 1, 1) := by decide +kernel
theorem dX3_tunedRow_2 : decode cX3_tunedRow 2 = .ok (.iconst 0, 1) := by decide +kernel
theorem dX3_tunedRow_3 : decode cX3_tunedRow 3 = .ok (.istore_n 2, 1) := by decide +kernel
theorem dX3_tunedRow_4 : decode cX3_tunedRow 4 = .ok (.iload_n 2, 1) := by decide +kernel
theorem dX3_tunedRow_5 : decode cX3_tunedRow 5 = .ok (.aload_n 0, 1) := by decide +kernel
theorem dX3_tunedRow_6 : decode cX3_tunedRow 6 = .ok (.getfield 58, 3) := by decide +kernel
theorem dX3_tunedRow_9 : decode cX3_tunedRow 9 = .ok (.if_icmp .ge 20, 3) := by decide +kernel
theorem dX3_tunedRow_12 : decode cX3_tunedRow 12 = .ok (.iload_n 1, 1) := by decide +kernel
theorem dX3_tunedRow_13 : decode cX3_tunedRow 13 = .ok (.iconst 3, 1) := by decide +kernel
theorem dX3_tunedRow_14 : decode cX3_tunedRow 14 = .ok (.imul, 1) := by decide +kernel
theorem dX3_tunedRow_15 : decode cX3_tunedRow 15 = .ok (.aload_n 0, 1) := by decide +kernel
theorem dX3_tunedRow_16 : decode cX3_tunedRow 16 = .ok (.getfield 21, 3) := by decide +kernel
theorem dX3_tunedRow_19 : decode cX3_tunedRow 19 = .ok (.iload_n 2, 1) := by decide +kernel
theorem dX3_tunedRow_20 : decode cX3_tunedRow 20 = .ok (.iaload, 1) := by decide +kernel
theorem dX3_tunedRow_21 : decode cX3_tunedRow 21 = .ok (.iadd, 1) := by decide +kernel
theorem dX3_tunedRow_22 : decode cX3_tunedRow 22 = .ok (.istore_n 1, 1) := by decide +kernel
theorem dX3_tunedRow_23 : decode cX3_tunedRow 23 = .ok (.iinc 2 1, 3) := by decide +kernel
theorem dX3_tunedRow_26 : decode cX3_tunedRow 26 = .ok (.goto (-22), 3) := by decide +kernel
theorem dX3_tunedRow_29 : decode cX3_tunedRow 29 = .ok (.iload_n 1, 1) := by decide +kernel
theorem dX3_tunedRow_30 : decode cX3_tunedRow 30 = .ok (.ireturn, 1) := by decide +kernel
def J_X3_tunedRow_29 (v1 : Int32) (D : aD) : Option (Int32 × aD) :=
  some (v1, D)
def B_X3_tunedRow_4 (v1 : Int32) (v2 : Int32) (D : aD) : Option ((Int32 × Int32 × aD) ⊕ ((Int32 × aD))) :=
  if gI D 68 2 ≤ v2 then (some (.inr (v1, D))) else (aGd (aIn v2 6) (aLet ((v1 * 3) + (gI D 72 v2.toNatClampNeg)) (fun v1_2 => aLet (v2 + 1) (fun v2_3 => some (.inl (v1_2, v2_3, D))))))
def J_X3_tunedRow_4 (v1 : Int32) (v2 : Int32) (D : aD) : Option (Int32 × aD) :=
  (aLp (fun s => B_X3_tunedRow_4 s.1 s.2.1 s.2.2) (v1, v2, D)).bind (fun r => J_X3_tunedRow_29 (r.1) r.2)
def f_X3_tunedRow (D : aD) : Option (Int32 × aD) :=
  J_X3_tunedRow_4 0 0 D
set_option maxRecDepth 100000 in
set_option maxHeartbeats 800000 in
theorem c_X3_tunedRow {G : aG} (hG : gOK G) {shp : List aSh} (hS : aShp shp) {fr : Option Nat} {D : aD} {K : Int32 → aD → Prop} (h : Ok2 (f_X3_tunedRow D) K) : AC G (aRm 1 0 0) M_X3_tunedRow [.ref 68] fr shp D (aQi shp K) := by
  replace h := Ok2.ok h
  unfold f_X3_tunedRow at h
  refine AC.of (al := [some (.ref 68), none, none]) (r := 2) (by decide) (Nat.le_of_ble_eq_true rfl) rfl ?_
  have hJ_29 : ∀ (v1 : Int32) (D : aD), Ok (J_X3_tunedRow_29 v1 D) (fun r => K r.1 r.2) → AW G (aRm 1 0 0) M_X3_tunedRow fr 0 0 29 [none, some (.int v1), none] [] shp D (aQi shp K) := by
    intro v1 D h
    unfold J_X3_tunedRow_29 at h
    refine aw_iload_n (n := 30) (i := 1) dX3_tunedRow_29 rfl rfl rfl ?_
    exact aw_iret rfl (by decide) (by decide) dX3_tunedRow_30 ⟨_, rfl, rfl, (Ok.dn h :)⟩
  have hJ_4 : ∀ (v1 : Int32) (v2 : Int32) (D : aD), Ok (J_X3_tunedRow_4 v1 v2 D) (fun r => K r.1 r.2) → AW G (aRm 1 0 0) M_X3_tunedRow fr 0 0 4 [some (.ref 68), some (.int v1), some (.int v2)] [] shp D (aQi shp K) := by
    intro v1 v2 D h
    unfold J_X3_tunedRow_4 at h
    refine Ok.lp (P := fun s => AW G (aRm 1 0 0) M_X3_tunedRow fr 0 0 4 [some (.ref 68), some (.int (s.1)), some (.int (s.2.1))] [] shp s.2.2 (aQi shp K)) (fun s Kb4 hL4 hR4 h => ?_) (v1, v2, D) (Ok.bind h)
    obtain ⟨v1, v2, D⟩ := s
    replace h : Ok (B_X3_tunedRow_4 v1 v2 D) Kb4 := h
    unfold B_X3_tunedRow_4 at h
    refine aw_iload_n (n := 5) (i := 2) dX3_tunedRow_4 rfl rfl rfl ?_
    refine aw_aload_n (n := 6) (i := 0) dX3_tunedRow_5 rfl rfl rfl ?_
    refine aw_getI (n := 9) (j := 2) hG.1 fl_RX3_58 (sF_68 hS) rfl dX3_tunedRow_6 rfl ?_
    refine aw_icmp_ge (n := 12) (tgt := 29) dX3_tunedRow_9 rfl (by decide) (fun c => ?_) (fun c => ?_)
    · replace h := Ok.ift h c
      exact aw_le' (hJ_29 v1 D (hR4 (v1, D) (Ok.dn h :))) ⟨rfl, trivial⟩
    · replace h := Ok.iff h c
      refine aw_iload_n (n := 13) (i := 1) dX3_tunedRow_12 rfl rfl rfl ?_
      refine aw_iconst (n := 14) (v := 3) dX3_tunedRow_13 rfl (by decide) ?_
      refine aw_imul (n := 15) dX3_tunedRow_14 rfl ?_
      refine aw_aload_n (n := 16) (i := 0) dX3_tunedRow_15 rfl rfl rfl ?_
      refine aw_getR (n := 19) (j := 6) (r := 72) hG.1 fl_RX3_21 (sF_68 hS) rfl dX3_tunedRow_16 rfl ?_
      refine aw_iload_n (n := 20) (i := 2) dX3_tunedRow_19 rfl rfl rfl ?_
      obtain ⟨g_1, h⟩ := Ok.gd h
      refine aw_iaload (n := 21) hG.1 (sF_72 hS) (aIn_in g_1) dX3_tunedRow_20 rfl ?_
      refine aw_iadd (n := 22) dX3_tunedRow_21 rfl ?_
      obtain ⟨v1_2, e_v1_2, h⟩ := Ok.let_ h
      refine aw_istore_n (n := 23) (i := 1) (al' := [some (.ref 68), some (.int v1_2), some (.int v2)]) dX3_tunedRow_22 rfl rfl e_v1_2 (by decide) rfl ?_
      obtain ⟨v2_3, e_v2_3, h⟩ := Ok.let_ h
      refine aw_iinc (n := 26) (al' := [some (.ref 68), some (.int v1_2), some (.int v2_3)]) dX3_tunedRow_23 rfl rfl e_v2_3 (by decide) rfl ?_
      refine aw_goto (tgt := 4) dX3_tunedRow_26 (by decide) ?_
      exact aw_le' (hL4 (v1_2, v2_3, D) (Ok.dn h :)) ⟨rfl, ⟨rfl, ⟨rfl, trivial⟩⟩⟩
  refine aw_iconst (n := 1) (v := 0) dX3_tunedRow_0 rfl (by decide) ?_
  refine aw_istore_n (n := 2) (i := 1) (al' := [some (.ref 68), some (.int 0), none]) dX3_tunedRow_1 rfl rfl rfl (by decide) rfl ?_
  refine aw_iconst (n := 3) (v := 0) dX3_tunedRow_2 rfl (by decide) ?_
  refine aw_istore_n (n := 4) (i := 2) (al' := [some (.ref 68), some (.int 0), some (.int 0)]) dX3_tunedRow_3 rfl rfl rfl (by decide) rfl ?_
  exact aw_le' (hJ_4 0 0 D h) ⟨rfl, ⟨rfl, ⟨rfl, trivial⟩⟩⟩
theorem dX3_allTurned_0 : decode cX3_allTurned 0 = .ok (.iconst 0, 1) := by decide +kernel
theorem dX3_allTurned_1 : decode cX3_allTurned 1 = .ok (.istore_n 1, 1) := by decide +kernel
theorem dX3_allTurned_2 : decode cX3_allTurned 2 = .ok (.iconst 0, 1) := by decide +kernel
theorem dX3_allTurned_3 : decode cX3_allTurned 3 = .ok (.istore_n 2, 1) := by decide +kernel
theorem dX3_allTurned_4 : decode cX3_allTurned 4 = .ok (.iload_n 2, 1) := by decide +kernel
theorem dX3_allTurned_5 : decode cX3_allTurned 5 = .ok (.aload_n 0, 1) := by decide +kernel
theorem dX3_allTurned_6 : decode cX3_allTurned 6 = .ok (.getfield 27, 3) := by decide +kernel
theorem dX3_allTurned_9 : decode cX3_allTurned 9 = .ok (.getfield 62, 3) := by decide +kernel
theorem dX3_allTurned_12 : decode cX3_allTurned 12 = .ok (.if_icmp .ge 23, 3) := by decide +kernel
theorem dX3_allTurned_15 : decode cX3_allTurned 15 = .ok (.iload_n 1, 1) := by decide +kernel
theorem dX3_allTurned_16 : decode cX3_allTurned 16 = .ok (.iconst 3, 1) := by decide +kernel
theorem dX3_allTurned_17 : decode cX3_allTurned 17 = .ok (.imul, 1) := by decide +kernel
theorem dX3_allTurned_18 : decode cX3_allTurned 18 = .ok (.aload_n 0, 1) := by decide +kernel
theorem dX3_allTurned_19 : decode cX3_allTurned 19 = .ok (.getfield 31, 3) := by decide +kernel
theorem dX3_allTurned_22 : decode cX3_allTurned 22 = .ok (.getfield 75, 3) := by decide +kernel
theorem dX3_allTurned_25 : decode cX3_allTurned 25 = .ok (.iload_n 2, 1) := by decide +kernel
theorem dX3_allTurned_26 : decode cX3_allTurned 26 = .ok (.iaload, 1) := by decide +kernel
theorem dX3_allTurned_27 : decode cX3_allTurned 27 = .ok (.iadd, 1) := by decide +kernel
theorem dX3_allTurned_28 : decode cX3_allTurned 28 = .ok (.istore_n 1, 1) := by decide +kernel
theorem dX3_allTurned_29 : decode cX3_allTurned 29 = .ok (.iinc 2 1, 3) := by decide +kernel
theorem dX3_allTurned_32 : decode cX3_allTurned 32 = .ok (.goto (-28), 3) := by decide +kernel
theorem dX3_allTurned_35 : decode cX3_allTurned 35 = .ok (.iload_n 1, 1) := by decide +kernel
theorem dX3_allTurned_36 : decode cX3_allTurned 36 = .ok (.ireturn, 1) := by decide +kernel
def J_X3_allTurned_35 (v1 : Int32) (D : aD) : Option (Int32 × aD) :=
  some (v1, D)
def B_X3_allTurned_4 (v1 : Int32) (v2 : Int32) (D : aD) : Option ((Int32 × Int32 × aD) ⊕ ((Int32 × aD))) :=
  if gI D 2 4 ≤ v2 then (some (.inr (v1, D))) else (aGd (aIn v2 12) (aLet ((v1 * 3) + (gI D 63 v2.toNatClampNeg)) (fun v1_2 => aLet (v2 + 1) (fun v2_3 => some (.inl (v1_2, v2_3, D))))))
def J_X3_allTurned_4 (v1 : Int32) (v2 : Int32) (D : aD) : Option (Int32 × aD) :=
  (aLp (fun s => B_X3_allTurned_4 s.1 s.2.1 s.2.2) (v1, v2, D)).bind (fun r => J_X3_allTurned_35 (r.1) r.2)
def f_X3_allTurned (D : aD) : Option (Int32 × aD) :=
  J_X3_allTurned_4 0 0 D
set_option maxRecDepth 100000 in
set_option maxHeartbeats 800000 in
theorem c_X3_allTurned {G : aG} (hG : gOK G) {shp : List aSh} (hS : aShp shp) {fr : Option Nat} {D : aD} {K : Int32 → aD → Prop} (h : Ok2 (f_X3_allTurned D) K) : AC G (aRm 1 0 0) M_X3_allTurned [.ref 68] fr shp D (aQi shp K) := by
  replace h := Ok2.ok h
  unfold f_X3_allTurned at h
  refine AC.of (al := [some (.ref 68), none, none]) (r := 2) (by decide) (Nat.le_of_ble_eq_true rfl) rfl ?_
  have hJ_35 : ∀ (v1 : Int32) (D : aD), Ok (J_X3_allTurned_35 v1 D) (fun r => K r.1 r.2) → AW G (aRm 1 0 0) M_X3_allTurned fr 0 0 35 [none, some (.int v1), none] [] shp D (aQi shp K) := by
    intro v1 D h
    unfold J_X3_allTurned_35 at h
    refine aw_iload_n (n := 36) (i := 1) dX3_allTurned_35 rfl rfl rfl ?_
    exact aw_iret rfl (by decide) (by decide) dX3_allTurned_36 ⟨_, rfl, rfl, (Ok.dn h :)⟩
  have hJ_4 : ∀ (v1 : Int32) (v2 : Int32) (D : aD), Ok (J_X3_allTurned_4 v1 v2 D) (fun r => K r.1 r.2) → AW G (aRm 1 0 0) M_X3_allTurned fr 0 0 4 [some (.ref 68), some (.int v1), some (.int v2)] [] shp D (aQi shp K) := by
    intro v1 v2 D h
    unfold J_X3_allTurned_4 at h
    refine Ok.lp (P := fun s => AW G (aRm 1 0 0) M_X3_allTurned fr 0 0 4 [some (.ref 68), some (.int (s.1)), some (.int (s.2.1))] [] shp s.2.2 (aQi shp K)) (fun s Kb4 hL4 hR4 h => ?_) (v1, v2, D) (Ok.bind h)
    obtain ⟨v1, v2, D⟩ := s
    replace h : Ok (B_X3_allTurned_4 v1 v2 D) Kb4 := h
    unfold B_X3_allTurned_4 at h
    refine aw_iload_n (n := 5) (i := 2) dX3_allTurned_4 rfl rfl rfl ?_
    refine aw_aload_n (n := 6) (i := 0) dX3_allTurned_5 rfl rfl rfl ?_
    refine aw_getR (n := 9) (j := 0) (r := 2) hG.1 fl_RX3_27 (sF_68 hS) rfl dX3_allTurned_6 rfl ?_
    refine aw_getI (n := 12) (j := 4) hG.1 fl_RX3_62 (sF_2 hS) rfl dX3_allTurned_9 rfl ?_
    refine aw_icmp_ge (n := 15) (tgt := 35) dX3_allTurned_12 rfl (by decide) (fun c => ?_) (fun c => ?_)
    · replace h := Ok.ift h c
      exact aw_le' (hJ_35 v1 D (hR4 (v1, D) (Ok.dn h :))) ⟨rfl, trivial⟩
    · replace h := Ok.iff h c
      refine aw_iload_n (n := 16) (i := 1) dX3_allTurned_15 rfl rfl rfl ?_
      refine aw_iconst (n := 17) (v := 3) dX3_allTurned_16 rfl (by decide) ?_
      refine aw_imul (n := 18) dX3_allTurned_17 rfl ?_
      refine aw_aload_n (n := 19) (i := 0) dX3_allTurned_18 rfl rfl rfl ?_
      refine aw_getR (n := 22) (j := 1) (r := 60) hG.1 fl_RX3_31 (sF_68 hS) rfl dX3_allTurned_19 rfl ?_
      refine aw_getR (n := 25) (j := 6) (r := 63) hG.1 fl_RX3_75 (sF_60 hS) rfl dX3_allTurned_22 rfl ?_
      refine aw_iload_n (n := 26) (i := 2) dX3_allTurned_25 rfl rfl rfl ?_
      obtain ⟨g_1, h⟩ := Ok.gd h
      refine aw_iaload (n := 27) hG.1 (sF_63 hS) (aIn_in g_1) dX3_allTurned_26 rfl ?_
      refine aw_iadd (n := 28) dX3_allTurned_27 rfl ?_
      obtain ⟨v1_2, e_v1_2, h⟩ := Ok.let_ h
      refine aw_istore_n (n := 29) (i := 1) (al' := [some (.ref 68), some (.int v1_2), some (.int v2)]) dX3_allTurned_28 rfl rfl e_v1_2 (by decide) rfl ?_
      obtain ⟨v2_3, e_v2_3, h⟩ := Ok.let_ h
      refine aw_iinc (n := 32) (al' := [some (.ref 68), some (.int v1_2), some (.int v2_3)]) dX3_allTurned_29 rfl rfl e_v2_3 (by decide) rfl ?_
      refine aw_goto (tgt := 4) dX3_allTurned_32 (by decide) ?_
      exact aw_le' (hL4 (v1_2, v2_3, D) (Ok.dn h :)) ⟨rfl, ⟨rfl, ⟨rfl, trivial⟩⟩⟩
  refine aw_iconst (n := 1) (v := 0) dX3_allTurned_0 rfl (by decide) ?_
  refine aw_istore_n (n := 2) (i := 1) (al' := [some (.ref 68), some (.int 0), none]) dX3_allTurned_1 rfl rfl rfl (by decide) rfl ?_
  refine aw_iconst (n := 3) (v := 0) dX3_allTurned_2 rfl (by decide) ?_
  refine aw_istore_n (n := 4) (i := 2) (al' := [some (.ref 68), some (.int 0), some (.int 0)]) dX3_allTurned_3 rfl rfl rfl (by decide) rfl ?_
  exact aw_le' (hJ_4 0 0 D h) ⟨rfl, ⟨rfl, ⟨rfl, trivial⟩⟩⟩
theorem dX3_isSeenBefore_0 : decode cX3_isSeenBefore 0 = .ok (.iconst 0, 1) := by decide +kernel
theorem dX3_isSeenBefore_1 : decode cX3_isSeenBefore 1 = .ok (.istore_n 2, 1) := by decide +kernel
theorem dX3_isSeenBefore_2 : decode cX3_isSeenBefore 2 = .ok (.iload_n 2, 1) := by decide +kernel
theorem dX3_isSeenBefore_3 : decode cX3_isSeenBefore 3 = .ok (.iload_n 1, 1) := by decide +kernel
theorem dX3_isSeenBefore_4 : decode cX3_isSeenBefore 4 = .ok (.if_icmp .ge 26, 3) := by decide +kernel
theorem dX3_isSeenBefore_7 : decode cX3_isSeenBefore 7 = .ok (.aload_n 0, 1) := by decide +kernel
theorem dX3_isSeenBefore_8 : decode cX3_isSeenBefore 8 = .ok (.getfield 24, 3) := by decide +kernel
theorem dX3_isSeenBefore_11 : decode cX3_isSeenBefore 11 = .ok (.iload_n 2, 1) := by decide +kernel
theorem dX3_isSeenBefore_12 : decode cX3_isSeenBefore 12 = .ok (.iaload, 1) := by decide +kernel
theorem dX3_isSeenBefore_13 : decode cX3_isSeenBefore 13 = .ok (.aload_n 0, 1) := by decide +kernel
theorem dX3_isSeenBefore_14 : decode cX3_isSeenBefore 14 = .ok (.getfield 24, 3) := by decide +kernel
theorem dX3_isSeenBefore_17 : decode cX3_isSeenBefore 17 = .ok (.iload_n 1, 1) := by decide +kernel
theorem dX3_isSeenBefore_18 : decode cX3_isSeenBefore 18 = .ok (.iaload, 1) := by decide +kernel
theorem dX3_isSeenBefore_19 : decode cX3_isSeenBefore 19 = .ok (.if_icmp .ne 5, 3) := by decide +kernel
theorem dX3_isSeenBefore_22 : decode cX3_isSeenBefore 22 = .ok (.iconst 1, 1) := by decide +kernel
theorem dX3_isSeenBefore_23 : decode cX3_isSeenBefore 23 = .ok (.ireturn, 1) := by decide +kernel
theorem dX3_isSeenBefore_24 : decode cX3_isSeenBefore 24 = .ok (.iinc 2 1, 3) := by decide +kernel
theorem dX3_isSeenBefore_27 : decode cX3_isSeenBefore 27 = .ok (.goto (-25), 3) := by decide +kernel
theorem dX3_isSeenBefore_30 : decode cX3_isSeenBefore 30 = .ok (.iconst 0, 1) := by decide +kernel
theorem dX3_isSeenBefore_31 : decode cX3_isSeenBefore 31 = .ok (.ireturn, 1) := by decide +kernel
def J_X3_isSeenBefore_22 (D : aD) : Option (Int32 × aD) :=
  some (1, D)
def J_X3_isSeenBefore_30 (D : aD) : Option (Int32 × aD) :=
  some (0, D)
def B_X3_isSeenBefore_2 (v1 : Int32) (v2 : Int32) (D : aD) : Option ((Int32 × aD) ⊕ ((aD) ⊕ (aD))) :=
  if v1 ≤ v2 then (some (.inr (.inr (D)))) else (aGd (aIn v2 21) (aGd (aIn v1 21) (if gI D 73 v2.toNatClampNeg ≠ gI D 73 v1.toNatClampNeg then (aLet (v2 + 1) (fun v2_3 => some (.inl (v2_3, D)))) else (some (.inr (.inl (D)))))))
def J_X3_isSeenBefore_2 (v1 : Int32) (v2 : Int32) (D : aD) : Option (Int32 × aD) :=
  (aLp (fun s => B_X3_isSeenBefore_2 v1 s.1 s.2) (v2, D)).bind (Sum.elim (fun r => J_X3_isSeenBefore_22 r) ((fun r => J_X3_isSeenBefore_30 r)))
def f_X3_isSeenBefore (v1 : Int32) (D : aD) : Option (Int32 × aD) :=
  J_X3_isSeenBefore_2 v1 0 D
set_option maxRecDepth 100000 in
set_option maxHeartbeats 800000 in
theorem c_X3_isSeenBefore {G : aG} (hG : gOK G) {shp : List aSh} (hS : aShp shp) {fr : Option Nat} {v1 : Int32} {D : aD} {K : Int32 → aD → Prop} (h : Ok2 (f_X3_isSeenBefore v1 D) K) : AC G (aRm 1 0 0) M_X3_isSeenBefore [.ref 68, .int v1] fr shp D (aQi shp K) := by
  replace h := Ok2.ok h
  unfold f_X3_isSeenBefore at h
  refine AC.of (al := [some (.ref 68), some (.int v1), none]) (r := 1) (by decide) (Nat.le_of_ble_eq_true rfl) rfl ?_
  have hJ_22 : ∀ (D : aD), Ok (J_X3_isSeenBefore_22 D) (fun r => K r.1 r.2) → AW G (aRm 1 0 0) M_X3_isSeenBefore fr 0 0 22 [none, none, none] [] shp D (aQi shp K) := by
    intro D h
    unfold J_X3_isSeenBefore_22 at h
    refine aw_iconst (n := 23) (v := 1) dX3_isSeenBefore_22 rfl (by decide) ?_
    exact aw_zret rfl (by decide) (by decide) (by decide) dX3_isSeenBefore_23 ⟨_, rfl, rfl, (Ok.dn h :)⟩
  have hJ_30 : ∀ (D : aD), Ok (J_X3_isSeenBefore_30 D) (fun r => K r.1 r.2) → AW G (aRm 1 0 0) M_X3_isSeenBefore fr 0 0 30 [none, none, none] [] shp D (aQi shp K) := by
    intro D h
    unfold J_X3_isSeenBefore_30 at h
    refine aw_iconst (n := 31) (v := 0) dX3_isSeenBefore_30 rfl (by decide) ?_
    exact aw_zret rfl (by decide) (by decide) (by decide) dX3_isSeenBefore_31 ⟨_, rfl, rfl, (Ok.dn h :)⟩
  have hJ_2 : ∀ (v1 : Int32) (v2 : Int32) (D : aD), Ok (J_X3_isSeenBefore_2 v1 v2 D) (fun r => K r.1 r.2) → AW G (aRm 1 0 0) M_X3_isSeenBefore fr 0 0 2 [some (.ref 68), some (.int v1), some (.int v2)] [] shp D (aQi shp K) := by
    intro v1 v2 D h
    unfold J_X3_isSeenBefore_2 at h
    refine Ok.lp (P := fun s => AW G (aRm 1 0 0) M_X3_isSeenBefore fr 0 0 2 [some (.ref 68), some (.int v1), some (.int (s.1))] [] shp s.2 (aQi shp K)) (fun s Kb2 hL2 hR2 h => ?_) (v2, D) (Ok.bind h)
    obtain ⟨v2, D⟩ := s
    replace h : Ok (B_X3_isSeenBefore_2 v1 v2 D) Kb2 := h
    unfold B_X3_isSeenBefore_2 at h
    refine aw_iload_n (n := 3) (i := 2) dX3_isSeenBefore_2 rfl rfl rfl ?_
    refine aw_iload_n (n := 4) (i := 1) dX3_isSeenBefore_3 rfl rfl rfl ?_
    refine aw_icmp_ge (n := 7) (tgt := 30) dX3_isSeenBefore_4 rfl (by decide) (fun c => ?_) (fun c => ?_)
    · replace h := Ok.ift h c
      exact aw_le' (hJ_30 D (Ok.er (hR2 (.inr (D)) (Ok.dn h :)) :)) trivial
    · replace h := Ok.iff h c
      refine aw_aload_n (n := 8) (i := 0) dX3_isSeenBefore_7 rfl rfl rfl ?_
      refine aw_getR (n := 11) (j := 7) (r := 73) hG.1 fl_RX3_24 (sF_68 hS) rfl dX3_isSeenBefore_8 rfl ?_
      refine aw_iload_n (n := 12) (i := 2) dX3_isSeenBefore_11 rfl rfl rfl ?_
      obtain ⟨g_1, h⟩ := Ok.gd h
      refine aw_iaload (n := 13) hG.1 (sF_73 hS) (aIn_in g_1) dX3_isSeenBefore_12 rfl ?_
      refine aw_aload_n (n := 14) (i := 0) dX3_isSeenBefore_13 rfl rfl rfl ?_
      refine aw_getR (n := 17) (j := 7) (r := 73) hG.1 fl_RX3_24 (sF_68 hS) rfl dX3_isSeenBefore_14 rfl ?_
      refine aw_iload_n (n := 18) (i := 1) dX3_isSeenBefore_17 rfl rfl rfl ?_
      obtain ⟨g_2, h⟩ := Ok.gd h
      refine aw_iaload (n := 19) hG.1 (sF_73 hS) (aIn_in g_2) dX3_isSeenBefore_18 rfl ?_
      refine aw_icmp_ne (n := 22) (tgt := 24) dX3_isSeenBefore_19 rfl (by decide) (fun c => ?_) (fun c => ?_)
      · replace h := Ok.ift h c
        obtain ⟨v2_3, e_v2_3, h⟩ := Ok.let_ h
        refine aw_iinc (n := 27) (al' := [some (.ref 68), some (.int v1), some (.int v2_3)]) dX3_isSeenBefore_24 rfl rfl e_v2_3 (by decide) rfl ?_
        refine aw_goto (tgt := 2) dX3_isSeenBefore_27 (by decide) ?_
        exact aw_le' (hL2 (v2_3, D) (Ok.dn h :)) ⟨rfl, ⟨rfl, ⟨rfl, trivial⟩⟩⟩
      · replace h := Ok.iffn h c
        exact aw_le' (hJ_22 D (Ok.el (hR2 (.inl (D)) (Ok.dn h :)) :)) trivial
  refine aw_iconst (n := 1) (v := 0) dX3_isSeenBefore_0 rfl (by decide) ?_
  refine aw_istore_n (n := 2) (i := 2) (al' := [some (.ref 68), some (.int v1), some (.int 0)]) dX3_isSeenBefore_1 rfl rfl rfl (by decide) rfl ?_
  exact aw_le' (hJ_2 v1 0 D h) ⟨rfl, ⟨rfl, ⟨rfl, trivial⟩⟩⟩
theorem dX3_turnRound_0 : decode cX3_turnRound 0 = .ok (.iconst 0, 1) := by decide +kernel
theorem dX3_turnRound_1 : decode cX3_turnRound 1 = .ok (.istore_n 1, 1) := by decide +kernel
theorem dX3_turnRound_2 : decode cX3_turnRound 2 = .ok (.iconst 0, 1) := by decide +kernel
theorem dX3_turnRound_3 : decode cX3_turnRound 3 = .ok (.istore_n 2, 1) := by decide +kernel
theorem dX3_turnRound_4 : decode cX3_turnRound 4 = .ok (.iload_n 2, 1) := by decide +kernel
theorem dX3_turnRound_5 : decode cX3_turnRound 5 = .ok (.aload_n 0, 1) := by decide +kernel
theorem dX3_turnRound_6 : decode cX3_turnRound 6 = .ok (.getfield 27, 3) := by decide +kernel
theorem dX3_turnRound_9 : decode cX3_turnRound 9 = .ok (.getfield 87, 3) := by decide +kernel
theorem dX3_turnRound_12 : decode cX3_turnRound 12 = .ok (.if_icmp .ge 96, 3) := by decide +kernel
theorem dX3_turnRound_15 : decode cX3_turnRound 15 = .ok (.aload_n 0, 1) := by decide +kernel
theorem dX3_turnRound_16 : decode cX3_turnRound 16 = .ok (.getfield 31, 3) := by decide +kernel
theorem dX3_turnRound_19 : decode cX3_turnRound 19 = .ok (.iload_n 2, 1) := by decide +kernel
theorem dX3_turnRound_20 : decode cX3_turnRound 20 = .ok (.iconst (-1), 1) := by decide +kernel
theorem dX3_turnRound_21 : decode cX3_turnRound 21 = .ok (.invokevirtual 45, 3) := by decide +kernel
theorem dX3_turnRound_24 : decode cX3_turnRound 24 = .ok (.istore_n 3, 1) := by decide +kernel
theorem dX3_turnRound_25 : decode cX3_turnRound 25 = .ok (.aload_n 0, 1) := by decide +kernel
theorem dX3_turnRound_26 : decode cX3_turnRound 26 = .ok (.iload_n 2, 1) := by decide +kernel
theorem dX3_turnRound_27 : decode cX3_turnRound 27 = .ok (.iload_n 3, 1) := by decide +kernel
theorem dX3_turnRound_28 : decode cX3_turnRound 28 = .ok (.invokevirtual 90, 3) := by decide +kernel
theorem dX3_turnRound_31 : decode cX3_turnRound 31 = .ok (.iload_n 3, 1) := by decide +kernel
theorem dX3_turnRound_32 : decode cX3_turnRound 32 = .ok (.if_icmp .le 7, 3) := by decide +kernel
theorem dX3_turnRound_35 : decode cX3_turnRound 35 = .ok (.iconst 1, 1) := by decide +kernel
theorem dX3_turnRound_36 : decode cX3_turnRound 36 = .ok (.goto 4, 3) := by decide +kernel
theorem dX3_turnRound_39 : decode cX3_turnRound 39 = .ok (.iconst 0, 1) := by decide +kernel
theorem dX3_turnRound_40 : decode cX3_turnRound 40 = .ok (.istore 4, 2) := by decide +kernel
theorem dX3_turnRound_42 : decode cX3_turnRound 42 = .ok (.iconst 0, 1) := by decide +kernel
theorem dX3_turnRound_43 : decode cX3_turnRound 43 = .ok (.istore 5, 2) := by decide +kernel
theorem dX3_turnRound_45 : decode cX3_turnRound 45 = .ok (.iload 5, 2) := by decide +kernel
theorem dX3_turnRound_47 : decode cX3_turnRound 47 = .ok (.aload_n 0, 1) := by decide +kernel
theorem dX3_turnRound_48 : decode cX3_turnRound 48 = .ok (.getfield 58, 3) := by decide +kernel
theorem dX3_turnRound_51 : decode cX3_turnRound 51 = .ok (.if_icmp .ge 46, 3) := by decide +kernel
theorem dX3_turnRound_54 : decode cX3_turnRound 54 = .ok (.aload_n 0, 1) := by decide +kernel
theorem dX3_turnRound_55 : decode cX3_turnRound 55 = .ok (.getfield 31, 3) := by decide +kernel
theorem dX3_turnRound_58 : decode cX3_turnRound 58 = .ok (.getfield 75, 3) := by decide +kernel
theorem dX3_turnRound_61 : decode cX3_turnRound 61 = .ok (.aload_n 0, 1) := by decide +kernel
theorem dX3_turnRound_62 : decode cX3_turnRound 62 = .ok (.getfield 9, 3) := by decide +kernel
theorem dX3_turnRound_65 : decode cX3_turnRound 65 = .ok (.iload 5, 2) := by decide +kernel
theorem dX3_turnRound_67 : decode cX3_turnRound 67 = .ok (.iaload, 1) := by decide +kernel
theorem dX3_turnRound_68 : decode cX3_turnRound 68 = .ok (.iload 4, 2) := by decide +kernel
theorem dX3_turnRound_70 : decode cX3_turnRound 70 = .ok (.ifCond .eq 13, 3) := by decide +kernel
theorem dX3_turnRound_73 : decode cX3_turnRound 73 = .ok (.aload_n 0, 1) := by decide +kernel
theorem dX3_turnRound_74 : decode cX3_turnRound 74 = .ok (.getfield 21, 3) := by decide +kernel
theorem dX3_turnRound_77 : decode cX3_turnRound 77 = .ok (.iload 5, 2) := by decide +kernel
theorem dX3_turnRound_79 : decode cX3_turnRound 79 = .ok (.iaload, 1) := by decide +kernel
theorem dX3_turnRound_80 : decode cX3_turnRound 80 = .ok (.goto 10, 3) := by decide +kernel
theorem dX3_turnRound_83 : decode cX3_turnRound 83 = .ok (.aload_n 0, 1) := by decide +kernel
theorem dX3_turnRound_84 : decode cX3_turnRound 84 = .ok (.getfield 18, 3) := by decide +kernel
theorem dX3_turnRound_87 : decode cX3_turnRound 87 = .ok (.iload 5, 2) := by decide +kernel
theorem dX3_turnRound_89 : decode cX3_turnRound 89 = .ok (.iaload, 1) := by decide +kernel
theorem dX3_turnRound_90 : decode cX3_turnRound 90 = .ok (.iastore, 1) := by decide +kernel
theorem dX3_turnRound_91 : decode cX3_turnRound 91 = .ok (.iinc 5 1, 3) := by decide +kernel
theorem dX3_turnRound_94 : decode cX3_turnRound 94 = .ok (.goto (-49), 3) := by decide +kernel
theorem dX3_turnRound_97 : decode cX3_turnRound 97 = .ok (.iload_n 1, 1) := by decide +kernel
theorem dX3_turnRound_98 : decode cX3_turnRound 98 = .ok (.iload 4, 2) := by decide +kernel
theorem dX3_turnRound_100 : decode cX3_turnRound 100 = .ok (.ior, 1) := by decide +kernel
theorem dX3_turnRound_101 : decode cX3_turnRound 101 = .ok (.istore_n 1, 1) := by decide +kernel
theorem dX3_turnRound_102 : decode cX3_turnRound 102 = .ok (.iinc 2 1, 3) := by decide +kernel
theorem dX3_turnRound_105 : decode cX3_turnRound 105 = .ok (.goto (-101), 3) := by decide +kernel
theorem dX3_turnRound_108 : decode cX3_turnRound 108 = .ok (.iload_n 1, 1) := by decide +kernel
theorem dX3_turnRound_109 : decode cX3_turnRound 109 = .ok (.ireturn, 1) := by decide +kernel
def J_X3_turnRound_108 (v1 : Int32) (D : aD) : Option (Int32 × aD) :=
  aGd (aZ v1) (some (v1, D))
def J_X3_turnRound_97 (v1 : Int32) (v2 : Int32) (v4 : Int32) (D : aD) : Option ((Int32 × Int32 × aD) ⊕ ((Int32 × aD))) :=
  aLet (v1 ||| v4) (fun v1_6 => aLet (v2 + 1) (fun v2_7 => some (.inl (v1_6, v2_7, D))))
def B_X3_turnRound_45 (v1 : Int32) (v2 : Int32) (v4 : Int32) (v5 : Int32) (D : aD) : Option ((Int32 × aD) ⊕ ((aD))) :=
  if gI D 68 2 ≤ v5 then (some (.inr D)) else (aGd (aIn v5 6) (if v4 = 0 then (aGd (aIn v5 6) (aGd (aIn (gI D 69 v5.toNatClampNeg) 12) (aLet (pI D 63 (gI D 69 v5.toNatClampNeg).toNatClampNeg (gI D 71 v5.toNatClampNeg)) (fun D_11 => aLet (v5 + 1) (fun v5_12 => some (.inl (v5_12, D_11))))))) else (aGd (aIn v5 6) (aGd (aIn (gI D 69 v5.toNatClampNeg) 12) (aLet (pI D 63 (gI D 69 v5.toNatClampNeg).toNatClampNeg (gI D 72 v5.toNatClampNeg)) (fun D_15 => aLet (v5 + 1) (fun v5_16 => some (.inl (v5_16, D_15)))))))))
def J_X3_turnRound_45 (v1 : Int32) (v2 : Int32) (v4 : Int32) (v5 : Int32) (D : aD) : Option ((Int32 × Int32 × aD) ⊕ ((Int32 × aD))) :=
  (aLp (fun s => B_X3_turnRound_45 v1 v2 v4 s.1 s.2) (v5, D)).bind (fun r => J_X3_turnRound_97 v1 v2 v4 r)
def J_X3_turnRound_40 (v1 : Int32) (v2 : Int32) (t0 : Int32) (D : aD) : Option ((Int32 × Int32 × aD) ⊕ ((Int32 × aD))) :=
  J_X3_turnRound_45 v1 v2 t0 0 D
def B_X3_turnRound_4 (v1 : Int32) (v2 : Int32) (D : aD) : Option ((Int32 × Int32 × aD) ⊕ ((Int32 × aD))) :=
  if gI D 2 3 ≤ v2 then (some (.inr (v1, D))) else (aBi (f_X1_weightsWon v2 (-1) D) (fun y_2 D_3 => aBi (f_X3_tune v2 y_2 D_3) (fun y_4 D_5 => if y_4 ≤ y_2 then (J_X3_turnRound_40 v1 v2 0 D_5) else (J_X3_turnRound_40 v1 v2 1 D_5))))
def J_X3_turnRound_4 (v1 : Int32) (v2 : Int32) (D : aD) : Option (Int32 × aD) :=
  (aLp (fun s => B_X3_turnRound_4 s.1 s.2.1 s.2.2) (v1, v2, D)).bind (fun r => J_X3_turnRound_108 (r.1) r.2)
def f_X3_turnRound (D : aD) : Option (Int32 × aD) :=
  J_X3_turnRound_4 0 0 D
set_option maxRecDepth 100000 in
set_option maxHeartbeats 800000 in
theorem c_X3_turnRound {G : aG} (hG : gOK G) {shp : List aSh} (hS : aShp shp) {fr : Option Nat} {D : aD} {K : Int32 → aD → Prop} (h : Ok2 (f_X3_turnRound D) K) : AC G (aRm 6 0 0) M_X3_turnRound [.ref 68] fr shp D (aQi shp K) := by
  replace h := Ok2.ok h
  unfold f_X3_turnRound at h
  refine AC.of (al := [some (.ref 68), none, none, none, none, none]) (r := 5) (by decide) (Nat.le_of_ble_eq_true rfl) rfl ?_
  have hJ_108 : ∀ (v1 : Int32) (D : aD), Ok (J_X3_turnRound_108 v1 D) (fun r => K r.1 r.2) → AW G (aRm 6 0 0) M_X3_turnRound fr 0 0 108 [none, some (.int v1), none, none, none, none] [] shp D (aQi shp K) := by
    intro v1 D h
    unfold J_X3_turnRound_108 at h
    refine aw_iload_n (n := 109) (i := 1) dX3_turnRound_108 rfl rfl rfl ?_
    obtain ⟨g_1, h⟩ := Ok.gd h
    exact aw_zret rfl (aZ_or g_1) (by decide) (by decide) dX3_turnRound_109 ⟨_, rfl, rfl, (Ok.dn h :)⟩
  have hJ_4 : ∀ (v1 : Int32) (v2 : Int32) (D : aD), Ok (J_X3_turnRound_4 v1 v2 D) (fun r => K r.1 r.2) → AW G (aRm 6 0 0) M_X3_turnRound fr 0 0 4 [some (.ref 68), some (.int v1), some (.int v2), none, none, none] [] shp D (aQi shp K) := by
    intro v1 v2 D h
    unfold J_X3_turnRound_4 at h
    refine Ok.lp (P := fun s => AW G (aRm 6 0 0) M_X3_turnRound fr 0 0 4 [some (.ref 68), some (.int (s.1)), some (.int (s.2.1)), none, none, none] [] shp s.2.2 (aQi shp K)) (fun s Kb4 hL4 hR4 h => ?_) (v1, v2, D) (Ok.bind h)
    obtain ⟨v1, v2, D⟩ := s
    replace h : Ok (B_X3_turnRound_4 v1 v2 D) Kb4 := h
    unfold B_X3_turnRound_4 at h
    have hJ_97 : ∀ (v1 : Int32) (v2 : Int32) (v4 : Int32) (D : aD), Ok (J_X3_turnRound_97 v1 v2 v4 D) Kb4 → AW G (aRm 6 0 0) M_X3_turnRound fr 0 0 97 [some (.ref 68), some (.int v1), some (.int v2), none, some (.int v4), none] [] shp D (aQi shp K) := by
      intro v1 v2 v4 D h
      unfold J_X3_turnRound_97 at h
      refine aw_iload_n (n := 98) (i := 1) dX3_turnRound_97 rfl rfl rfl ?_
      refine aw_iload (n := 100) (i := 4) dX3_turnRound_98 rfl rfl ?_
      refine aw_ior (n := 101) dX3_turnRound_100 rfl ?_
      obtain ⟨v1_6, e_v1_6, h⟩ := Ok.let_ h
      refine aw_istore_n (n := 102) (i := 1) (al' := [some (.ref 68), some (.int v1_6), some (.int v2), none, some (.int v4), none]) dX3_turnRound_101 rfl rfl e_v1_6 (by decide) rfl ?_
      obtain ⟨v2_7, e_v2_7, h⟩ := Ok.let_ h
      refine aw_iinc (n := 105) (al' := [some (.ref 68), some (.int v1_6), some (.int v2_7), none, some (.int v4), none]) dX3_turnRound_102 rfl rfl e_v2_7 (by decide) rfl ?_
      refine aw_goto (tgt := 4) dX3_turnRound_105 (by decide) ?_
      exact aw_le' (hL4 (v1_6, v2_7, D) (Ok.dn h :)) ⟨rfl, ⟨rfl, ⟨rfl, trivial⟩⟩⟩
    have hJ_45 : ∀ (v1 : Int32) (v2 : Int32) (v4 : Int32) (v5 : Int32) (D : aD), Ok (J_X3_turnRound_45 v1 v2 v4 v5 D) Kb4 → AW G (aRm 6 0 0) M_X3_turnRound fr 0 0 45 [some (.ref 68), some (.int v1), some (.int v2), none, some (.int v4), some (.int v5)] [] shp D (aQi shp K) := by
      intro v1 v2 v4 v5 D h
      unfold J_X3_turnRound_45 at h
      refine Ok.lp (P := fun s => AW G (aRm 6 0 0) M_X3_turnRound fr 0 0 45 [some (.ref 68), some (.int v1), some (.int v2), none, some (.int v4), some (.int (s.1))] [] shp s.2 (aQi shp K)) (fun s Kb45 hL45 hR45 h => ?_) (v5, D) (Ok.bind h)
      obtain ⟨v5, D⟩ := s
      replace h : Ok (B_X3_turnRound_45 v1 v2 v4 v5 D) Kb45 := h
      unfold B_X3_turnRound_45 at h
      refine aw_iload (n := 47) (i := 5) dX3_turnRound_45 rfl rfl ?_
      refine aw_aload_n (n := 48) (i := 0) dX3_turnRound_47 rfl rfl rfl ?_
      refine aw_getI (n := 51) (j := 2) hG.1 fl_RX3_58 (sF_68 hS) rfl dX3_turnRound_48 rfl ?_
      refine aw_icmp_ge (n := 54) (tgt := 97) dX3_turnRound_51 rfl (by decide) (fun c => ?_) (fun c => ?_)
      · replace h := Ok.ift h c
        exact aw_le' (hJ_97 v1 v2 v4 D (hR45 D (Ok.dn h :))) ⟨rfl, ⟨rfl, ⟨rfl, ⟨rfl, trivial⟩⟩⟩⟩
      · replace h := Ok.iff h c
        refine aw_aload_n (n := 55) (i := 0) dX3_turnRound_54 rfl rfl rfl ?_
        refine aw_getR (n := 58) (j := 1) (r := 60) hG.1 fl_RX3_31 (sF_68 hS) rfl dX3_turnRound_55 rfl ?_
        refine aw_getR (n := 61) (j := 6) (r := 63) hG.1 fl_RX3_75 (sF_60 hS) rfl dX3_turnRound_58 rfl ?_
        refine aw_aload_n (n := 62) (i := 0) dX3_turnRound_61 rfl rfl rfl ?_
        refine aw_getR (n := 65) (j := 3) (r := 69) hG.1 fl_RX3_9 (sF_68 hS) rfl dX3_turnRound_62 rfl ?_
        refine aw_iload (n := 67) (i := 5) dX3_turnRound_65 rfl rfl ?_
        obtain ⟨g_8, h⟩ := Ok.gd h
        refine aw_iaload (n := 68) hG.1 (sF_69 hS) (aIn_in g_8) dX3_turnRound_67 rfl ?_
        refine aw_iload (n := 70) (i := 4) dX3_turnRound_68 rfl rfl ?_
        refine aw_if_eq (n := 73) (tgt := 83) dX3_turnRound_70 rfl (by decide) (fun c => ?_) (fun c => ?_)
        · replace h := Ok.ift h c
          refine aw_aload_n (n := 84) (i := 0) dX3_turnRound_83 rfl rfl rfl ?_
          refine aw_getR (n := 87) (j := 5) (r := 71) hG.1 fl_RX3_18 (sF_68 hS) rfl dX3_turnRound_84 rfl ?_
          refine aw_iload (n := 89) (i := 5) dX3_turnRound_87 rfl rfl ?_
          obtain ⟨g_9, h⟩ := Ok.gd h
          refine aw_iaload (n := 90) hG.1 (sF_71 hS) (aIn_in g_9) dX3_turnRound_89 rfl ?_
          obtain ⟨g_10, h⟩ := Ok.gd h
          obtain ⟨D_11, e_D_11, h⟩ := Ok.let_ h
          refine aw_iastore (n := 91) hG.1 (sF_63 hS) (aIn_in g_10) e_D_11 dX3_turnRound_90 rfl ?_
          obtain ⟨v5_12, e_v5_12, h⟩ := Ok.let_ h
          refine aw_iinc (n := 94) (al' := [some (.ref 68), some (.int v1), some (.int v2), none, some (.int v4), some (.int v5_12)]) dX3_turnRound_91 rfl rfl e_v5_12 (by decide) rfl ?_
          refine aw_goto (tgt := 45) dX3_turnRound_94 (by decide) ?_
          exact aw_le' (hL45 (v5_12, D_11) (Ok.dn h :)) ⟨rfl, ⟨rfl, ⟨rfl, ⟨rfl, ⟨rfl, trivial⟩⟩⟩⟩⟩
        · replace h := Ok.iff h c
          refine aw_aload_n (n := 74) (i := 0) dX3_turnRound_73 rfl rfl rfl ?_
          refine aw_getR (n := 77) (j := 6) (r := 72) hG.1 fl_RX3_21 (sF_68 hS) rfl dX3_turnRound_74 rfl ?_
          refine aw_iload (n := 79) (i := 5) dX3_turnRound_77 rfl rfl ?_
          obtain ⟨g_13, h⟩ := Ok.gd h
          refine aw_iaload (n := 80) hG.1 (sF_72 hS) (aIn_in g_13) dX3_turnRound_79 rfl ?_
          refine aw_goto (tgt := 90) dX3_turnRound_80 (by decide) ?_
          obtain ⟨g_14, h⟩ := Ok.gd h
          obtain ⟨D_15, e_D_15, h⟩ := Ok.let_ h
          refine aw_iastore (n := 91) hG.1 (sF_63 hS) (aIn_in g_14) e_D_15 dX3_turnRound_90 rfl ?_
          obtain ⟨v5_16, e_v5_16, h⟩ := Ok.let_ h
          refine aw_iinc (n := 94) (al' := [some (.ref 68), some (.int v1), some (.int v2), none, some (.int v4), some (.int v5_16)]) dX3_turnRound_91 rfl rfl e_v5_16 (by decide) rfl ?_
          refine aw_goto (tgt := 45) dX3_turnRound_94 (by decide) ?_
          exact aw_le' (hL45 (v5_16, D_15) (Ok.dn h :)) ⟨rfl, ⟨rfl, ⟨rfl, ⟨rfl, ⟨rfl, trivial⟩⟩⟩⟩⟩
    have hJ_40 : ∀ (v1 : Int32) (v2 : Int32) (t0 : Int32) (D : aD), Ok (J_X3_turnRound_40 v1 v2 t0 D) Kb4 → AW G (aRm 6 0 0) M_X3_turnRound fr 0 0 40 [some (.ref 68), some (.int v1), some (.int v2), none, none, none] [.int t0] shp D (aQi shp K) := by
      intro v1 v2 t0 D h
      unfold J_X3_turnRound_40 at h
      refine aw_istore (n := 42) (i := 4) (al' := [some (.ref 68), some (.int v1), some (.int v2), none, some (.int t0), none]) dX3_turnRound_40 rfl rfl (by decide) rfl ?_
      refine aw_iconst (n := 43) (v := 0) dX3_turnRound_42 rfl (by decide) ?_
      refine aw_istore (n := 45) (i := 5) (al' := [some (.ref 68), some (.int v1), some (.int v2), none, some (.int t0), some (.int 0)]) dX3_turnRound_43 rfl rfl (by decide) rfl ?_
      exact aw_le' (hJ_45 v1 v2 t0 0 D h) ⟨rfl, ⟨rfl, ⟨rfl, ⟨rfl, ⟨rfl, trivial⟩⟩⟩⟩⟩
    refine aw_iload_n (n := 5) (i := 2) dX3_turnRound_4 rfl rfl rfl ?_
    refine aw_aload_n (n := 6) (i := 0) dX3_turnRound_5 rfl rfl rfl ?_
    refine aw_getR (n := 9) (j := 0) (r := 2) hG.1 fl_RX3_27 (sF_68 hS) rfl dX3_turnRound_6 rfl ?_
    refine aw_getI (n := 12) (j := 3) hG.1 fl_RX3_87 (sF_2 hS) rfl dX3_turnRound_9 rfl ?_
    refine aw_icmp_ge (n := 15) (tgt := 108) dX3_turnRound_12 rfl (by decide) (fun c => ?_) (fun c => ?_)
    · replace h := Ok.ift h c
      exact aw_le' (hJ_108 v1 D (hR4 (v1, D) (Ok.dn h :))) ⟨rfl, trivial⟩
    · replace h := Ok.iff h c
      refine aw_aload_n (n := 16) (i := 0) dX3_turnRound_15 rfl rfl rfl ?_
      refine aw_getR (n := 19) (j := 1) (r := 60) hG.1 fl_RX3_31 (sF_68 hS) rfl dX3_turnRound_16 rfl ?_
      refine aw_iload_n (n := 20) (i := 2) dX3_turnRound_19 rfl rfl rfl ?_
      refine aw_iconst (n := 21) (v := (-1)) dX3_turnRound_20 rfl (by decide) ?_
      refine aw_cVi (M := M_X3_turnRound) (n := 24) (As := [.int v2, .int (-1)]) (rest := []) hG.1 lk_RX3_45 rfl rfl (sF_60 hS) (c_X1_weightsWon hG hS (h := Ok.bi h)) (by decide) (Nat.le_of_ble_eq_true rfl) (by decide) (by decide) dX3_turnRound_21 rfl (fun y_2 D_3 h => ?_)
      refine aw_istore_n (n := 25) (i := 3) (al' := [some (.ref 68), some (.int v1), some (.int v2), some (.int y_2), none, none]) dX3_turnRound_24 rfl rfl rfl (by decide) rfl ?_
      refine aw_aload_n (n := 26) (i := 0) dX3_turnRound_25 rfl rfl rfl ?_
      refine aw_iload_n (n := 27) (i := 2) dX3_turnRound_26 rfl rfl rfl ?_
      refine aw_iload_n (n := 28) (i := 3) dX3_turnRound_27 rfl rfl rfl ?_
      refine aw_cVi (M := M_X3_turnRound) (n := 31) (As := [.int v2, .int y_2]) (rest := []) hG.1 lk_RX3_90 rfl rfl (sF_68 hS) (c_X3_tune hG hS (h := Ok.bi h)) (by decide) (Nat.le_of_ble_eq_true rfl) (by decide) (by decide) dX3_turnRound_28 rfl (fun y_4 D_5 h => ?_)
      refine aw_iload_n (n := 32) (i := 3) dX3_turnRound_31 rfl rfl rfl ?_
      refine aw_icmp_le (n := 35) (tgt := 39) dX3_turnRound_32 rfl (by decide) (fun c => ?_) (fun c => ?_)
      · replace h := Ok.ift h c
        refine aw_iconst (n := 40) (v := 0) dX3_turnRound_39 rfl (by decide) ?_
        exact aw_le' (hJ_40 v1 v2 0 D_5 h) ⟨rfl, ⟨rfl, ⟨rfl, trivial⟩⟩⟩
      · replace h := Ok.iff h c
        refine aw_iconst (n := 36) (v := 1) dX3_turnRound_35 rfl (by decide) ?_
        refine aw_goto (tgt := 40) dX3_turnRound_36 (by decide) ?_
        exact aw_le' (hJ_40 v1 v2 1 D_5 h) ⟨rfl, ⟨rfl, ⟨rfl, trivial⟩⟩⟩
  refine aw_iconst (n := 1) (v := 0) dX3_turnRound_0 rfl (by decide) ?_
  refine aw_istore_n (n := 2) (i := 1) (al' := [some (.ref 68), some (.int 0), none, none, none, none]) dX3_turnRound_1 rfl rfl rfl (by decide) rfl ?_
  refine aw_iconst (n := 3) (v := 0) dX3_turnRound_2 rfl (by decide) ?_
  refine aw_istore_n (n := 4) (i := 2) (al' := [some (.ref 68), some (.int 0), some (.int 0), none, none, none]) dX3_turnRound_3 rfl rfl rfl (by decide) rfl ?_
  exact aw_le' (hJ_4 0 0 D h) ⟨rfl, ⟨rfl, ⟨rfl, trivial⟩⟩⟩
theorem dX3_roundsToRest_0 : decode cX3_roundsToRest 0 = .ok (.iconst 0, 1) := by decide +kernel
theorem dX3_roundsToRest_1 : decode cX3_roundsToRest 1 = .ok (.istore_n 1, 1) := by decide +kernel
theorem dX3_roundsToRest_2 : decode cX3_roundsToRest 2 = .ok (.iload_n 1, 1) := by decide +kernel
theorem dX3_roundsToRest_3 : decode cX3_roundsToRest 3 = .ok (.bipush 21, 2) := by decide +kernel
theorem dX3_roundsToRest_5 : decode cX3_roundsToRest 5 = .ok (.if_icmp .ge 38, 3) := by decide +kernel
theorem dX3_roundsToRest_8 : decode cX3_roundsToRest 8 = .ok (.aload_n 0, 1) := by decide +kernel
theorem dX3_roundsToRest_9 : decode cX3_roundsToRest 9 = .ok (.getfield 24, 3) := by decide +kernel
theorem dX3_roundsToRest_12 : decode cX3_roundsToRest 12 = .ok (.iload_n 1, 1) := by decide +kernel
theorem dX3_roundsToRest_13 : decode cX3_roundsToRest 13 = .ok (.aload_n 0, 1) := by decide +kernel
theorem dX3_roundsToRest_14 : decode cX3_roundsToRest 14 = .ok (.invokevirtual 78, 3) := by decide +kernel
theorem dX3_roundsToRest_17 : decode cX3_roundsToRest 17 = .ok (.iastore, 1) := by decide +kernel
theorem dX3_roundsToRest_18 : decode cX3_roundsToRest 18 = .ok (.aload_n 0, 1) := by decide +kernel
theorem dX3_roundsToRest_19 : decode cX3_roundsToRest 19 = .ok (.iload_n 1, 1) := by decide +kernel
theorem dX3_roundsToRest_20 : decode cX3_roundsToRest 20 = .ok (.invokevirtual 81, 3) := by decide +kernel
theorem dX3_roundsToRest_23 : decode cX3_roundsToRest 23 = .ok (.ifCond .eq 5, 3) := by decide +kernel
theorem dX3_roundsToRest_26 : decode cX3_roundsToRest 26 = .ok (.iconst (-1), 1) := by decide +kernel
theorem dX3_roundsToRest_27 : decode cX3_roundsToRest 27 = .ok (.ireturn, 1) := by decide +kernel
theorem dX3_roundsToRest_28 : decode cX3_roundsToRest 28 = .ok (.aload_n 0, 1) := by decide +kernel
theorem dX3_roundsToRest_29 : decode cX3_roundsToRest 29 = .ok (.invokevirtual 84, 3) := by decide +kernel
theorem dX3_roundsToRest_32 : decode cX3_roundsToRest 32 = .ok (.ifCond .ne 5, 3) := by decide +kernel
theorem dX3_roundsToRest_35 : decode cX3_roundsToRest 35 = .ok (.iload_n 1, 1) := by decide +kernel
theorem dX3_roundsToRest_36 : decode cX3_roundsToRest 36 = .ok (.ireturn, 1) := by decide +kernel
theorem dX3_roundsToRest_37 : decode cX3_roundsToRest 37 = .ok (.iinc 1 1, 3) := by decide +kernel
theorem dX3_roundsToRest_40 : decode cX3_roundsToRest 40 = .ok (.goto (-38), 3) := by decide +kernel
theorem dX3_roundsToRest_43 : decode cX3_roundsToRest 43 = .ok (.iconst (-1), 1) := by decide +kernel
theorem dX3_roundsToRest_44 : decode cX3_roundsToRest 44 = .ok (.ireturn, 1) := by decide +kernel
def J_X3_roundsToRest_26 (D : aD) : Option (Int32 × aD) :=
  some ((-1), D)
def J_X3_roundsToRest_35 (v1 : Int32) (D : aD) : Option (Int32 × aD) :=
  some (v1, D)
def J_X3_roundsToRest_43 (D : aD) : Option (Int32 × aD) :=
  some ((-1), D)
def B_X3_roundsToRest_2 (v1 : Int32) (D : aD) : Option ((Int32 × aD) ⊕ ((aD) ⊕ (Int32 × aD) ⊕ (aD))) :=
  if 21 ≤ v1 then (some (.inr (.inr (.inr (D))))) else (aBi (f_X3_allTurned D) (fun y_1 D_2 => aGd (aIn v1 21) (aLet (pI D_2 73 v1.toNatClampNeg y_1) (fun D_4 => aBi (f_X3_isSeenBefore v1 D_4) (fun y_5 D_6 => if y_5 = 0 then (aBi (f_X3_turnRound D_6) (fun y_7 D_8 => if y_7 ≠ 0 then (aLet (v1 + 1) (fun v1_9 => some (.inl (v1_9, D_8)))) else (some (.inr (.inr (.inl ((v1, D_8)))))))) else (some (.inr (.inl (D_6)))))))))
def J_X3_roundsToRest_2 (v1 : Int32) (D : aD) : Option (Int32 × aD) :=
  (aLp (fun s => B_X3_roundsToRest_2 s.1 s.2) (v1, D)).bind (Sum.elim (fun r => J_X3_roundsToRest_26 r) (Sum.elim (fun r => J_X3_roundsToRest_35 (r.1) r.2) ((fun r => J_X3_roundsToRest_43 r))))
def f_X3_roundsToRest (D : aD) : Option (Int32 × aD) :=
  J_X3_roundsToRest_2 0 D
set_option maxRecDepth 100000 in
set_option maxHeartbeats 800000 in
theorem c_X3_roundsToRest {G : aG} (hG : gOK G) {shp : List aSh} (hS : aShp shp) {fr : Option Nat} {D : aD} {K : Int32 → aD → Prop} (h : Ok2 (f_X3_roundsToRest D) K) : AC G (aRm 7 0 0) M_X3_roundsToRest [.ref 68] fr shp D (aQi shp K) := by
  replace h := Ok2.ok h
  unfold f_X3_roundsToRest at h
  refine AC.of (al := [some (.ref 68), none]) (r := 1) (by decide) (Nat.le_of_ble_eq_true rfl) rfl ?_
  have hJ_26 : ∀ (D : aD), Ok (J_X3_roundsToRest_26 D) (fun r => K r.1 r.2) → AW G (aRm 7 0 0) M_X3_roundsToRest fr 0 0 26 [none, none] [] shp D (aQi shp K) := by
    intro D h
    unfold J_X3_roundsToRest_26 at h
    refine aw_iconst (n := 27) (v := (-1)) dX3_roundsToRest_26 rfl (by decide) ?_
    exact aw_iret rfl (by decide) (by decide) dX3_roundsToRest_27 ⟨_, rfl, rfl, (Ok.dn h :)⟩
  have hJ_35 : ∀ (v1 : Int32) (D : aD), Ok (J_X3_roundsToRest_35 v1 D) (fun r => K r.1 r.2) → AW G (aRm 7 0 0) M_X3_roundsToRest fr 0 0 35 [none, some (.int v1)] [] shp D (aQi shp K) := by
    intro v1 D h
    unfold J_X3_roundsToRest_35 at h
    refine aw_iload_n (n := 36) (i := 1) dX3_roundsToRest_35 rfl rfl rfl ?_
    exact aw_iret rfl (by decide) (by decide) dX3_roundsToRest_36 ⟨_, rfl, rfl, (Ok.dn h :)⟩
  have hJ_43 : ∀ (D : aD), Ok (J_X3_roundsToRest_43 D) (fun r => K r.1 r.2) → AW G (aRm 7 0 0) M_X3_roundsToRest fr 0 0 43 [none, none] [] shp D (aQi shp K) := by
    intro D h
    unfold J_X3_roundsToRest_43 at h
    refine aw_iconst (n := 44) (v := (-1)) dX3_roundsToRest_43 rfl (by decide) ?_
    exact aw_iret rfl (by decide) (by decide) dX3_roundsToRest_44 ⟨_, rfl, rfl, (Ok.dn h :)⟩
  have hJ_2 : ∀ (v1 : Int32) (D : aD), Ok (J_X3_roundsToRest_2 v1 D) (fun r => K r.1 r.2) → AW G (aRm 7 0 0) M_X3_roundsToRest fr 0 0 2 [some (.ref 68), some (.int v1)] [] shp D (aQi shp K) := by
    intro v1 D h
    unfold J_X3_roundsToRest_2 at h
    refine Ok.lp (P := fun s => AW G (aRm 7 0 0) M_X3_roundsToRest fr 0 0 2 [some (.ref 68), some (.int (s.1))] [] shp s.2 (aQi shp K)) (fun s Kb2 hL2 hR2 h => ?_) (v1, D) (Ok.bind h)
    obtain ⟨v1, D⟩ := s
    replace h : Ok (B_X3_roundsToRest_2 v1 D) Kb2 := h
    unfold B_X3_roundsToRest_2 at h
    refine aw_iload_n (n := 3) (i := 1) dX3_roundsToRest_2 rfl rfl rfl ?_
    refine aw_bipush (n := 5) (v := 21) dX3_roundsToRest_3 rfl (by decide) ?_
    refine aw_icmp_ge (n := 8) (tgt := 43) dX3_roundsToRest_5 rfl (by decide) (fun c => ?_) (fun c => ?_)
    · replace h := Ok.ift h c
      exact aw_le' (hJ_43 D (Ok.er (Ok.er (hR2 (.inr (.inr (D))) (Ok.dn h :))) :)) trivial
    · replace h := Ok.iff h c
      refine aw_aload_n (n := 9) (i := 0) dX3_roundsToRest_8 rfl rfl rfl ?_
      refine aw_getR (n := 12) (j := 7) (r := 73) hG.1 fl_RX3_24 (sF_68 hS) rfl dX3_roundsToRest_9 rfl ?_
      refine aw_iload_n (n := 13) (i := 1) dX3_roundsToRest_12 rfl rfl rfl ?_
      refine aw_aload_n (n := 14) (i := 0) dX3_roundsToRest_13 rfl rfl rfl ?_
      refine aw_cVi (M := M_X3_roundsToRest) (n := 17) (As := []) (rest := [.int v1, .ref 73]) hG.1 lk_RX3_78 rfl rfl (sF_68 hS) (c_X3_allTurned hG hS (h := Ok.bi h)) (by decide) (Nat.le_of_ble_eq_true rfl) (by decide) (by decide) dX3_roundsToRest_14 rfl (fun y_1 D_2 h => ?_)
      obtain ⟨g_3, h⟩ := Ok.gd h
      obtain ⟨D_4, e_D_4, h⟩ := Ok.let_ h
      refine aw_iastore (n := 18) hG.1 (sF_73 hS) (aIn_in g_3) e_D_4 dX3_roundsToRest_17 rfl ?_
      refine aw_aload_n (n := 19) (i := 0) dX3_roundsToRest_18 rfl rfl rfl ?_
      refine aw_iload_n (n := 20) (i := 1) dX3_roundsToRest_19 rfl rfl rfl ?_
      refine aw_cVi (M := M_X3_roundsToRest) (n := 23) (As := [.int v1]) (rest := []) hG.1 lk_RX3_81 rfl rfl (sF_68 hS) (c_X3_isSeenBefore hG hS (h := Ok.bi h)) (by decide) (Nat.le_of_ble_eq_true rfl) (by decide) (by decide) dX3_roundsToRest_20 rfl (fun y_5 D_6 h => ?_)
      refine aw_if_eq (n := 26) (tgt := 28) dX3_roundsToRest_23 rfl (by decide) (fun c => ?_) (fun c => ?_)
      · replace h := Ok.ift h c
        refine aw_aload_n (n := 29) (i := 0) dX3_roundsToRest_28 rfl rfl rfl ?_
        refine aw_cVi (M := M_X3_roundsToRest) (n := 32) (As := []) (rest := []) hG.1 lk_RX3_84 rfl rfl (sF_68 hS) (c_X3_turnRound hG hS (h := Ok.bi h)) (by decide) (Nat.le_of_ble_eq_true rfl) (by decide) (by decide) dX3_roundsToRest_29 rfl (fun y_7 D_8 h => ?_)
        refine aw_if_ne (n := 35) (tgt := 37) dX3_roundsToRest_32 rfl (by decide) (fun c => ?_) (fun c => ?_)
        · replace h := Ok.ift h c
          obtain ⟨v1_9, e_v1_9, h⟩ := Ok.let_ h
          refine aw_iinc (n := 40) (al' := [some (.ref 68), some (.int v1_9)]) dX3_roundsToRest_37 rfl rfl e_v1_9 (by decide) rfl ?_
          refine aw_goto (tgt := 2) dX3_roundsToRest_40 (by decide) ?_
          exact aw_le' (hL2 (v1_9, D_8) (Ok.dn h :)) ⟨rfl, ⟨rfl, trivial⟩⟩
        · replace h := Ok.iffn h c
          exact aw_le' (hJ_35 v1 D_8 (Ok.el (Ok.er (hR2 (.inr (.inl ((v1, D_8)))) (Ok.dn h :))) :)) ⟨rfl, trivial⟩
      · replace h := Ok.iff h c
        exact aw_le' (hJ_26 D_6 (Ok.el (hR2 (.inl (D_6)) (Ok.dn h :)) :)) trivial
  refine aw_iconst (n := 1) (v := 0) dX3_roundsToRest_0 rfl (by decide) ?_
  refine aw_istore_n (n := 2) (i := 1) (al' := [some (.ref 68), some (.int 0)]) dX3_roundsToRest_1 rfl rfl rfl (by decide) rfl ?_
  exact aw_le' (hJ_2 0 D h) ⟨rfl, ⟨rfl, trivial⟩⟩
theorem dX1_tryPlant_0 : decode cX1_tryPlant 0 = .ok (.aload_n 0, 1) := by decide +kernel
theorem dX1_tryPlant_1 : decode cX1_tryPlant 1 = .ok (.getfield 33, 3) := by decide +kernel
theorem dX1_tryPlant_4 : decode cX1_tryPlant 4 = .ok (.getfield 65, 3) := by decide +kernel
theorem dX1_tryPlant_7 : decode cX1_tryPlant 7 = .ok (.istore 4, 2) := by decide +kernel
theorem dX1_tryPlant_9 : decode cX1_tryPlant 9 = .ok (.aload_n 0, 1) := by decide +kernel
theorem dX1_tryPlant_10 : decode cX1_tryPlant 10 = .ok (.iload 4, 2) := by decide +kernel
theorem dX1_tryPlant_12 : decode cX1_tryPlant 12 = .ok (.iconst 1, 1) := by decide +kernel
theorem dX1_tryPlant_13 : decode cX1_tryPlant 13 = .ok (.iadd, 1) := by decide +kernel
theorem dX1_tryPlant_14 : decode cX1_tryPlant 14 = .ok (.putfield 48, 3) := by decide +kernel
theorem dX1_tryPlant_17 : decode cX1_tryPlant 17 = .ok (.aload_n 0, 1) := by decide +kernel
theorem dX1_tryPlant_18 : decode cX1_tryPlant 18 = .ok (.getfield 9, 3) := by decide +kernel
theorem dX1_tryPlant_21 : decode cX1_tryPlant 21 = .ok (.iload 4, 2) := by decide +kernel
theorem dX1_tryPlant_23 : decode cX1_tryPlant 23 = .ok (.iload_n 1, 1) := by decide +kernel
theorem dX1_tryPlant_24 : decode cX1_tryPlant 24 = .ok (.iastore, 1) := by decide +kernel
theorem dX1_tryPlant_25 : decode cX1_tryPlant 25 = .ok (.aload_n 0, 1) := by decide +kernel
theorem dX1_tryPlant_26 : decode cX1_tryPlant 26 = .ok (.getfield 15, 3) := by decide +kernel
theorem dX1_tryPlant_29 : decode cX1_tryPlant 29 = .ok (.iload 4, 2) := by decide +kernel
theorem dX1_tryPlant_31 : decode cX1_tryPlant 31 = .ok (.iload_n 3, 1) := by decide +kernel
theorem dX1_tryPlant_32 : decode cX1_tryPlant 32 = .ok (.iastore, 1) := by decide +kernel
theorem dX1_tryPlant_33 : decode cX1_tryPlant 33 = .ok (.aload_n 0, 1) := by decide +kernel
theorem dX1_tryPlant_34 : decode cX1_tryPlant 34 = .ok (.getfield 18, 3) := by decide +kernel
theorem dX1_tryPlant_37 : decode cX1_tryPlant 37 = .ok (.iload 4, 2) := by decide +kernel
theorem dX1_tryPlant_39 : decode cX1_tryPlant 39 = .ok (.iconst 0, 1) := by decide +kernel
theorem dX1_tryPlant_40 : decode cX1_tryPlant 40 = .ok (.iastore, 1) := by decide +kernel
theorem dX1_tryPlant_41 : decode cX1_tryPlant 41 = .ok (.aload_n 0, 1) := by decide +kernel
theorem dX1_tryPlant_42 : decode cX1_tryPlant 42 = .ok (.iload 4, 2) := by decide +kernel
theorem dX1_tryPlant_44 : decode cX1_tryPlant 44 = .ok (.iload_n 2, 1) := by decide +kernel
theorem dX1_tryPlant_45 : decode cX1_tryPlant 45 = .ok (.invokevirtual 57, 3) := by decide +kernel
theorem dX1_tryPlant_48 : decode cX1_tryPlant 48 = .ok (.return_, 1) := by decide +kernel
def f_X1_tryPlant (v1 : Int32) (v2 : Int32) (v3 : Int32) (D : aD) : Option (aD) :=
  aLet (gI D 2 4) (fun v4_1 => aLet (pI D 60 3 (v4_1 + 1)) (fun D_2 => aGd (aIn v4_1 12) (aLet (pI D_2 61 v4_1.toNatClampNeg v1) (fun D_4 => aGd (aIn v4_1 12) (aLet (pI D_4 62 v4_1.toNatClampNeg v3) (fun D_6 => aGd (aIn v4_1 12) (aLet (pI D_6 63 v4_1.toNatClampNeg 0) (fun D_8 => (f_X1_carryAll v4_1 v2 D_8).bind (fun D_9 => some D_9)))))))))
set_option maxRecDepth 100000 in
set_option maxHeartbeats 800000 in
theorem c_X1_tryPlant {G : aG} (hG : gOK G) {shp : List aSh} (hS : aShp shp) {fr : Option Nat} {v1 : Int32} {v2 : Int32} {v3 : Int32} {D : aD} {K : aD → Prop} (h : Ok (f_X1_tryPlant v1 v2 v3 D) K) : AC G (aRm 5 0 0) M_X1_tryPlant [.ref 60, .int v1, .int v2, .int v3] fr shp D (aQv shp K) := by
  unfold f_X1_tryPlant at h
  refine AC.of (al := [some (.ref 60), some (.int v1), some (.int v2), some (.int v3), none]) (r := 1) (by decide) (Nat.le_of_ble_eq_true rfl) rfl ?_
  refine aw_aload_n (n := 1) (i := 0) dX1_tryPlant_0 rfl rfl rfl ?_
  refine aw_getR (n := 4) (j := 0) (r := 2) hG.1 fl_RX1_33 (sF_60 hS) rfl dX1_tryPlant_1 rfl ?_
  refine aw_getI (n := 7) (j := 4) hG.1 fl_RX1_65 (sF_2 hS) rfl dX1_tryPlant_4 rfl ?_
  obtain ⟨v4_1, e_v4_1, h⟩ := Ok.let_ h
  refine aw_istore (n := 9) (i := 4) (al' := [some (.ref 60), some (.int v1), some (.int v2), some (.int v3), some (.int v4_1)]) dX1_tryPlant_7 rfl e_v4_1 (by decide) rfl ?_
  refine aw_aload_n (n := 10) (i := 0) dX1_tryPlant_9 rfl rfl rfl ?_
  refine aw_iload (n := 12) (i := 4) dX1_tryPlant_10 rfl rfl ?_
  refine aw_iconst (n := 13) (v := 1) dX1_tryPlant_12 rfl (by decide) ?_
  refine aw_iadd (n := 14) dX1_tryPlant_13 rfl ?_
  obtain ⟨D_2, e_D_2, h⟩ := Ok.let_ h
  refine aw_putI (n := 17) (j := 3) hG.1 fl_RX1_48 (sF_60 hS) rfl e_D_2 dX1_tryPlant_14 rfl ?_
  refine aw_aload_n (n := 18) (i := 0) dX1_tryPlant_17 rfl rfl rfl ?_
  refine aw_getR (n := 21) (j := 4) (r := 61) hG.1 fl_RX1_9 (sF_60 hS) rfl dX1_tryPlant_18 rfl ?_
  refine aw_iload (n := 23) (i := 4) dX1_tryPlant_21 rfl rfl ?_
  refine aw_iload_n (n := 24) (i := 1) dX1_tryPlant_23 rfl rfl rfl ?_
  obtain ⟨g_3, h⟩ := Ok.gd h
  obtain ⟨D_4, e_D_4, h⟩ := Ok.let_ h
  refine aw_iastore (n := 25) hG.1 (sF_61 hS) (aIn_in g_3) e_D_4 dX1_tryPlant_24 rfl ?_
  refine aw_aload_n (n := 26) (i := 0) dX1_tryPlant_25 rfl rfl rfl ?_
  refine aw_getR (n := 29) (j := 5) (r := 62) hG.1 fl_RX1_15 (sF_60 hS) rfl dX1_tryPlant_26 rfl ?_
  refine aw_iload (n := 31) (i := 4) dX1_tryPlant_29 rfl rfl ?_
  refine aw_iload_n (n := 32) (i := 3) dX1_tryPlant_31 rfl rfl rfl ?_
  obtain ⟨g_5, h⟩ := Ok.gd h
  obtain ⟨D_6, e_D_6, h⟩ := Ok.let_ h
  refine aw_iastore (n := 33) hG.1 (sF_62 hS) (aIn_in g_5) e_D_6 dX1_tryPlant_32 rfl ?_
  refine aw_aload_n (n := 34) (i := 0) dX1_tryPlant_33 rfl rfl rfl ?_
  refine aw_getR (n := 37) (j := 6) (r := 63) hG.1 fl_RX1_18 (sF_60 hS) rfl dX1_tryPlant_34 rfl ?_
  refine aw_iload (n := 39) (i := 4) dX1_tryPlant_37 rfl rfl ?_
  refine aw_iconst (n := 40) (v := 0) dX1_tryPlant_39 rfl (by decide) ?_
  obtain ⟨g_7, h⟩ := Ok.gd h
  obtain ⟨D_8, e_D_8, h⟩ := Ok.let_ h
  refine aw_iastore (n := 41) hG.1 (sF_63 hS) (aIn_in g_7) e_D_8 dX1_tryPlant_40 rfl ?_
  refine aw_aload_n (n := 42) (i := 0) dX1_tryPlant_41 rfl rfl rfl ?_
  refine aw_iload (n := 44) (i := 4) dX1_tryPlant_42 rfl rfl ?_
  refine aw_iload_n (n := 45) (i := 2) dX1_tryPlant_44 rfl rfl rfl ?_
  refine aw_cVv (M := M_X1_tryPlant) (n := 48) (As := [.int v4_1, .int v2]) (rest := []) hG.1 lk_RX1_57 rfl rfl (sF_60 hS) (c_X1_carryAll hG hS (h := Ok.bind h)) (by decide) (Nat.le_of_ble_eq_true rfl) (by decide) (by decide) dX1_tryPlant_45 rfl (fun D_9 h => ?_)
  exact aw_vret rfl (by decide) (by decide) dX1_tryPlant_48 ⟨rfl, rfl, (Ok.dn h :)⟩
theorem dX3_plantOneMore_0 : decode cX3_plantOneMore 0 = .ok (.aload_n 0, 1) := by decide +kernel
theorem dX3_plantOneMore_1 : decode cX3_plantOneMore 1 = .ok (.getfield 27, 3) := by decide +kernel
theorem dX3_plantOneMore_4 : decode cX3_plantOneMore 4 = .ok (.invokevirtual 39, 3) := by decide +kernel
theorem dX3_plantOneMore_7 : decode cX3_plantOneMore 7 = .ok (.istore_n 2, 1) := by decide +kernel
theorem dX3_plantOneMore_8 : decode cX3_plantOneMore 8 = .ok (.iconst (-1), 1) := by decide +kernel
theorem dX3_plantOneMore_9 : decode cX3_plantOneMore 9 = .ok (.istore_n 3, 1) := by decide +kernel
theorem dX3_plantOneMore_10 : decode cX3_plantOneMore 10 = .ok (.aload_n 0, 1) := by decide +kernel
theorem dX3_plantOneMore_11 : decode cX3_plantOneMore 11 = .ok (.getfield 27, 3) := by decide +kernel
theorem dX3_plantOneMore_14 : decode cX3_plantOneMore 14 = .ok (.getfield 62, 3) := by decide +kernel
theorem dX3_plantOneMore_17 : decode cX3_plantOneMore 17 = .ok (.bipush 12, 2) := by decide +kernel
theorem dX3_plantOneMore_19 : decode cX3_plantOneMore 19 = .ok (.if_icmp .lt 5, 3) := by decide +kernel
theorem dX3_plantOneMore_22 : decode cX3_plantOneMore 22 = .ok (.iconst (-1), 1) := by decide +kernel
theorem dX3_plantOneMore_23 : decode cX3_plantOneMore 23 = .ok (.ireturn, 1) := by decide +kernel
theorem dX3_plantOneMore_24 : decode cX3_plantOneMore 24 = .ok (.iconst 0, 1) := by decide +kernel
theorem dX3_plantOneMore_25 : decode cX3_plantOneMore 25 = .ok (.istore 4, 2) := by decide +kernel
theorem dX3_plantOneMore_27 : decode cX3_plantOneMore 27 = .ok (.iload 4, 2) := by decide +kernel
theorem dX3_plantOneMore_29 : decode cX3_plantOneMore 29 = .ok (.aload_n 0, 1) := by decide +kernel
theorem dX3_plantOneMore_30 : decode cX3_plantOneMore 30 = .ok (.getfield 27, 3) := by decide +kernel
theorem dX3_plantOneMore_33 : decode cX3_plantOneMore 33 = .ok (.getfield 93, 3) := by decide +kernel
theorem dX3_plantOneMore_36 : decode cX3_plantOneMore 36 = .ok (.if_icmp .ge 101, 3) := by decide +kernel
theorem dX3_plantOneMore_39 : decode cX3_plantOneMore 39 = .ok (.iconst 0, 1) := by decide +kernel
theorem dX3_plantOneMore_40 : decode cX3_plantOneMore 40 = .ok (.istore 5, 2) := by decide +kernel
theorem dX3_plantOneMore_42 : decode cX3_plantOneMore 42 = .ok (.iload 5, 2) := by decide +kernel
theorem dX3_plantOneMore_44 : decode cX3_plantOneMore 44 = .ok (.aload_n 0, 1) := by decide +kernel
theorem dX3_plantOneMore_45 : decode cX3_plantOneMore 45 = .ok (.getfield 27, 3) := by decide +kernel
theorem dX3_plantOneMore_48 : decode cX3_plantOneMore 48 = .ok (.getfield 96, 3) := by decide +kernel
theorem dX3_plantOneMore_51 : decode cX3_plantOneMore 51 = .ok (.invokevirtual 100, 3) := by decide +kernel
theorem dX3_plantOneMore_54 : decode cX3_plantOneMore 54 = .ok (.if_icmp .ge 77, 3) := by decide +kernel
theorem dX3_plantOneMore_57 : decode cX3_plantOneMore 57 = .ok (.iload_n 3, 1) := by decide +kernel
theorem dX3_plantOneMore_58 : decode cX3_plantOneMore 58 = .ok (.iload_n 2, 1) := by decide +kernel
theorem dX3_plantOneMore_59 : decode cX3_plantOneMore 59 = .ok (.if_icmp .ge 72, 3) := by decide +kernel
theorem dX3_plantOneMore_62 : decode cX3_plantOneMore 62 = .ok (.aload_n 0, 1) := by decide +kernel
theorem dX3_plantOneMore_63 : decode cX3_plantOneMore 63 = .ok (.getfield 27, 3) := by decide +kernel
theorem dX3_plantOneMore_66 : decode cX3_plantOneMore 66 = .ok (.getfield 96, 3) := by decide +kernel
theorem dX3_plantOneMore_69 : decode cX3_plantOneMore 69 = .ok (.getfield 105, 3) := by decide +kernel
theorem dX3_plantOneMore_72 : decode cX3_plantOneMore 72 = .ok (.iload 5, 2) := by decide +kernel
theorem dX3_plantOneMore_74 : decode cX3_plantOneMore 74 = .ok (.baload, 1) := by decide +kernel
theorem dX3_plantOneMore_75 : decode cX3_plantOneMore 75 = .ok (.ifCond .eq 6, 3) := by decide +kernel
theorem dX3_plantOneMore_78 : decode cX3_plantOneMore 78 = .ok (.goto 47, 3) := by decide +kernel
theorem dX3_plantOneMore_81 : decode cX3_plantOneMore 81 = .ok (.aload_n 0, 1) := by decide +kernel
theorem dX3_plantOneMore_82 : decode cX3_plantOneMore 82 = .ok (.getfield 31, 3) := by decide +kernel
theorem dX3_plantOneMore_85 : decode cX3_plantOneMore 85 = .ok (.iload 4, 2) := by decide +kernel
theorem dX3_plantOneMore_87 : decode cX3_plantOneMore 87 = .ok (.iload 5, 2) := by decide +kernel
theorem dX3_plantOneMore_89 : decode cX3_plantOneMore 89 = .ok (.iload_n 1, 1) := by decide +kernel
theorem dX3_plantOneMore_90 : decode cX3_plantOneMore 90 = .ok (.invokevirtual 109, 3) := by decide +kernel
theorem dX3_plantOneMore_93 : decode cX3_plantOneMore 93 = .ok (.aload_n 0, 1) := by decide +kernel
theorem dX3_plantOneMore_94 : decode cX3_plantOneMore 94 = .ok (.getfield 31, 3) := by decide +kernel
theorem dX3_plantOneMore_97 : decode cX3_plantOneMore 97 = .ok (.iload_n 1, 1) := by decide +kernel
theorem dX3_plantOneMore_98 : decode cX3_plantOneMore 98 = .ok (.iload_n 3, 1) := by decide +kernel
theorem dX3_plantOneMore_99 : decode cX3_plantOneMore 99 = .ok (.invokevirtual 45, 3) := by decide +kernel
theorem dX3_plantOneMore_102 : decode cX3_plantOneMore 102 = .ok (.istore 6, 2) := by decide +kernel
theorem dX3_plantOneMore_104 : decode cX3_plantOneMore 104 = .ok (.iload 6, 2) := by decide +kernel
theorem dX3_plantOneMore_106 : decode cX3_plantOneMore 106 = .ok (.iload_n 3, 1) := by decide +kernel
theorem dX3_plantOneMore_107 : decode cX3_plantOneMore 107 = .ok (.if_icmp .le 18, 3) := by decide +kernel
theorem dX3_plantOneMore_110 : decode cX3_plantOneMore 110 = .ok (.iload 6, 2) := by decide +kernel
theorem dX3_plantOneMore_112 : decode cX3_plantOneMore 112 = .ok (.istore_n 3, 1) := by decide +kernel
theorem dX3_plantOneMore_113 : decode cX3_plantOneMore 113 = .ok (.aload_n 0, 1) := by decide +kernel
theorem dX3_plantOneMore_114 : decode cX3_plantOneMore 114 = .ok (.iload 4, 2) := by decide +kernel
theorem dX3_plantOneMore_116 : decode cX3_plantOneMore 116 = .ok (.putfield 113, 3) := by decide +kernel
theorem dX3_plantOneMore_119 : decode cX3_plantOneMore 119 = .ok (.aload_n 0, 1) := by decide +kernel
theorem dX3_plantOneMore_120 : decode cX3_plantOneMore 120 = .ok (.iload 5, 2) := by decide +kernel
theorem dX3_plantOneMore_122 : decode cX3_plantOneMore 122 = .ok (.putfield 116, 3) := by decide +kernel
theorem dX3_plantOneMore_125 : decode cX3_plantOneMore 125 = .ok (.iinc 5 1, 3) := by decide +kernel
theorem dX3_plantOneMore_128 : decode cX3_plantOneMore 128 = .ok (.goto (-86), 3) := by decide +kernel
theorem dX3_plantOneMore_131 : decode cX3_plantOneMore 131 = .ok (.iinc 4 1, 3) := by decide +kernel
theorem dX3_plantOneMore_134 : decode cX3_plantOneMore 134 = .ok (.goto (-107), 3) := by decide +kernel
theorem dX3_plantOneMore_137 : decode cX3_plantOneMore 137 = .ok (.iload_n 3, 1) := by decide +kernel
theorem dX3_plantOneMore_138 : decode cX3_plantOneMore 138 = .ok (.ireturn, 1) := by decide +kernel
def J_X3_plantOneMore_137 (v3 : Int32) (D : aD) : Option (Int32 × aD) :=
  some (v3, D)
def J_X3_plantOneMore_131 (v1 : Int32) (v2 : Int32) (v3 : Int32) (v4 : Int32) (D : aD) : Option ((Int32 × Int32 × aD) ⊕ ((Int32 × aD))) :=
  aLet (v4 + 1) (fun v4_3 => some (.inl (v3, v4_3, D)))
def B_X3_plantOneMore_42 (v1 : Int32) (v2 : Int32) (v4 : Int32) (v3 : Int32) (v5 : Int32) (D : aD) : Option ((Int32 × Int32 × aD) ⊕ ((Int32 × aD))) :=
  aBi (f_X4_cells D) (fun y_4 D_5 => if y_4 ≤ v5 then (some (.inr (v3, D_5))) else (if v2 ≤ v3 then (some (.inr (v3, D_5))) else (aGd (aIn v5 64) (if gI D_5 6 v5.toNatClampNeg = 0 then ((f_X1_tryPlant v4 v5 v1 D_5).bind (fun D_7 => aBi (f_X1_weightsWon v1 v3 D_7) (fun y_8 D_9 => if y_8 ≤ v3 then (aLet (v5 + 1) (fun v5_10 => some (.inl (v3, v5_10, D_9)))) else (aLet (pI D_9 68 8 v4) (fun D_11 => aLet (pI D_11 68 9 v5) (fun D_12 => aLet (v5 + 1) (fun v5_13 => some (.inl (y_8, v5_13, D_12))))))))) else (aLet (v5 + 1) (fun v5_14 => some (.inl (v3, v5_14, D_5))))))))
def J_X3_plantOneMore_42 (v1 : Int32) (v2 : Int32) (v3 : Int32) (v4 : Int32) (v5 : Int32) (D : aD) : Option ((Int32 × Int32 × aD) ⊕ ((Int32 × aD))) :=
  (aLp (fun s => B_X3_plantOneMore_42 v1 v2 v4 s.1 s.2.1 s.2.2) (v3, v5, D)).bind (fun r => J_X3_plantOneMore_131 v1 v2 (r.1) v4 r.2)
def B_X3_plantOneMore_27 (v1 : Int32) (v2 : Int32) (v3 : Int32) (v4 : Int32) (D : aD) : Option ((Int32 × Int32 × aD) ⊕ ((Int32 × aD))) :=
  if gI D 2 2 ≤ v4 then (some (.inr (v3, D))) else (J_X3_plantOneMore_42 v1 v2 v3 v4 0 D)
def J_X3_plantOneMore_27 (v1 : Int32) (v2 : Int32) (v3 : Int32) (v4 : Int32) (D : aD) : Option (Int32 × aD) :=
  (aLp (fun s => B_X3_plantOneMore_27 v1 v2 s.1 s.2.1 s.2.2) (v3, v4, D)).bind (fun r => J_X3_plantOneMore_137 (r.1) r.2)
def f_X3_plantOneMore (v1 : Int32) (D : aD) : Option (Int32 × aD) :=
  aBi (f_X6_allWeights D) (fun y_1 D_2 => if gI D_2 2 4 < 12 then (J_X3_plantOneMore_27 v1 y_1 (-1) 0 D_2) else (some ((-1), D_2)))
set_option maxRecDepth 100000 in
set_option maxHeartbeats 800000 in
theorem c_X3_plantOneMore {G : aG} (hG : gOK G) {shp : List aSh} (hS : aShp shp) {fr : Option Nat} {v1 : Int32} {D : aD} {K : Int32 → aD → Prop} (h : Ok2 (f_X3_plantOneMore v1 D) K) : AC G (aRm 6 0 0) M_X3_plantOneMore [.ref 68, .int v1] fr shp D (aQi shp K) := by
  replace h := Ok2.ok h
  unfold f_X3_plantOneMore at h
  refine AC.of (al := [some (.ref 68), some (.int v1), none, none, none, none, none]) (r := 5) (by decide) (Nat.le_of_ble_eq_true rfl) rfl ?_
  have hJ_137 : ∀ (v3 : Int32) (D : aD), Ok (J_X3_plantOneMore_137 v3 D) (fun r => K r.1 r.2) → AW G (aRm 6 0 0) M_X3_plantOneMore fr 0 0 137 [none, none, none, some (.int v3), none, none, none] [] shp D (aQi shp K) := by
    intro v3 D h
    unfold J_X3_plantOneMore_137 at h
    refine aw_iload_n (n := 138) (i := 3) dX3_plantOneMore_137 rfl rfl rfl ?_
    exact aw_iret rfl (by decide) (by decide) dX3_plantOneMore_138 ⟨_, rfl, rfl, (Ok.dn h :)⟩
  have hJ_27 : ∀ (v1 : Int32) (v2 : Int32) (v3 : Int32) (v4 : Int32) (D : aD), Ok (J_X3_plantOneMore_27 v1 v2 v3 v4 D) (fun r => K r.1 r.2) → AW G (aRm 6 0 0) M_X3_plantOneMore fr 0 0 27 [some (.ref 68), some (.int v1), some (.int v2), some (.int v3), some (.int v4), none, none] [] shp D (aQi shp K) := by
    intro v1 v2 v3 v4 D h
    unfold J_X3_plantOneMore_27 at h
    refine Ok.lp (P := fun s => AW G (aRm 6 0 0) M_X3_plantOneMore fr 0 0 27 [some (.ref 68), some (.int v1), some (.int v2), some (.int (s.1)), some (.int (s.2.1)), none, none] [] shp s.2.2 (aQi shp K)) (fun s Kb27 hL27 hR27 h => ?_) (v3, v4, D) (Ok.bind h)
    obtain ⟨v3, v4, D⟩ := s
    replace h : Ok (B_X3_plantOneMore_27 v1 v2 v3 v4 D) Kb27 := h
    unfold B_X3_plantOneMore_27 at h
    have hJ_131 : ∀ (v3 : Int32) (v4 : Int32) (D : aD), Ok (J_X3_plantOneMore_131 v1 v2 v3 v4 D) Kb27 → AW G (aRm 6 0 0) M_X3_plantOneMore fr 0 0 131 [some (.ref 68), some (.int v1), some (.int v2), some (.int v3), some (.int v4), none, none] [] shp D (aQi shp K) := by
      intro v3 v4 D h
      unfold J_X3_plantOneMore_131 at h
      obtain ⟨v4_3, e_v4_3, h⟩ := Ok.let_ h
      refine aw_iinc (n := 134) (al' := [some (.ref 68), some (.int v1), some (.int v2), some (.int v3), some (.int v4_3), none, none]) dX3_plantOneMore_131 rfl rfl e_v4_3 (by decide) rfl ?_
      refine aw_goto (tgt := 27) dX3_plantOneMore_134 (by decide) ?_
      exact aw_le' (hL27 (v3, v4_3, D) (Ok.dn h :)) ⟨rfl, ⟨rfl, ⟨rfl, ⟨rfl, ⟨rfl, trivial⟩⟩⟩⟩⟩
    have hJ_42 : ∀ (v3 : Int32) (v4 : Int32) (v5 : Int32) (D : aD), Ok (J_X3_plantOneMore_42 v1 v2 v3 v4 v5 D) Kb27 → AW G (aRm 6 0 0) M_X3_plantOneMore fr 0 0 42 [some (.ref 68), some (.int v1), some (.int v2), some (.int v3), some (.int v4), some (.int v5), none] [] shp D (aQi shp K) := by
      intro v3 v4 v5 D h
      unfold J_X3_plantOneMore_42 at h
      refine Ok.lp (P := fun s => AW G (aRm 6 0 0) M_X3_plantOneMore fr 0 0 42 [some (.ref 68), some (.int v1), some (.int v2), some (.int (s.1)), some (.int v4), some (.int (s.2.1)), none] [] shp s.2.2 (aQi shp K)) (fun s Kb42 hL42 hR42 h => ?_) (v3, v5, D) (Ok.bind h)
      obtain ⟨v3, v5, D⟩ := s
      replace h : Ok (B_X3_plantOneMore_42 v1 v2 v4 v3 v5 D) Kb42 := h
      unfold B_X3_plantOneMore_42 at h
      refine aw_iload (n := 44) (i := 5) dX3_plantOneMore_42 rfl rfl ?_
      refine aw_aload_n (n := 45) (i := 0) dX3_plantOneMore_44 rfl rfl rfl ?_
      refine aw_getR (n := 48) (j := 0) (r := 2) hG.1 fl_RX3_27 (sF_68 hS) rfl dX3_plantOneMore_45 rfl ?_
      refine aw_getR (n := 51) (j := 0) (r := 3) hG.1 fl_RX3_96 (sF_2 hS) rfl dX3_plantOneMore_48 rfl ?_
      refine aw_cVi (M := M_X3_plantOneMore) (n := 54) (As := []) (rest := [.int v5]) hG.1 lk_RX3_100 rfl rfl (sF_3 hS) (c_X4_cells hG hS (h := Ok.bi h)) (by decide) (Nat.le_of_ble_eq_true rfl) (by decide) (by decide) dX3_plantOneMore_51 rfl (fun y_4 D_5 h => ?_)
      refine aw_icmp_ge (n := 57) (tgt := 131) dX3_plantOneMore_54 rfl (by decide) (fun c => ?_) (fun c => ?_)
      · replace h := Ok.ift h c
        exact aw_le' (hJ_131 v3 v4 D_5 (hR42 (v3, D_5) (Ok.dn h :))) ⟨rfl, ⟨rfl, ⟨rfl, ⟨rfl, ⟨rfl, trivial⟩⟩⟩⟩⟩
      · replace h := Ok.iff h c
        refine aw_iload_n (n := 58) (i := 3) dX3_plantOneMore_57 rfl rfl rfl ?_
        refine aw_iload_n (n := 59) (i := 2) dX3_plantOneMore_58 rfl rfl rfl ?_
        refine aw_icmp_ge (n := 62) (tgt := 131) dX3_plantOneMore_59 rfl (by decide) (fun c => ?_) (fun c => ?_)
        · replace h := Ok.ift h c
          exact aw_le' (hJ_131 v3 v4 D_5 (hR42 (v3, D_5) (Ok.dn h :))) ⟨rfl, ⟨rfl, ⟨rfl, ⟨rfl, ⟨rfl, trivial⟩⟩⟩⟩⟩
        · replace h := Ok.iff h c
          refine aw_aload_n (n := 63) (i := 0) dX3_plantOneMore_62 rfl rfl rfl ?_
          refine aw_getR (n := 66) (j := 0) (r := 2) hG.1 fl_RX3_27 (sF_68 hS) rfl dX3_plantOneMore_63 rfl ?_
          refine aw_getR (n := 69) (j := 0) (r := 3) hG.1 fl_RX3_96 (sF_2 hS) rfl dX3_plantOneMore_66 rfl ?_
          refine aw_getR (n := 72) (j := 4) (r := 6) hG.1 fl_RX3_105 (sF_3 hS) rfl dX3_plantOneMore_69 rfl ?_
          refine aw_iload (n := 74) (i := 5) dX3_plantOneMore_72 rfl rfl ?_
          obtain ⟨g_6, h⟩ := Ok.gd h
          refine aw_zaload (n := 75) hG.1 (sF_6 hS) (aIn_in g_6) dX3_plantOneMore_74 rfl ?_
          refine aw_if_eq (n := 78) (tgt := 81) dX3_plantOneMore_75 rfl (by decide) (fun c => ?_) (fun c => ?_)
          · replace h := Ok.ift h c
            refine aw_aload_n (n := 82) (i := 0) dX3_plantOneMore_81 rfl rfl rfl ?_
            refine aw_getR (n := 85) (j := 1) (r := 60) hG.1 fl_RX3_31 (sF_68 hS) rfl dX3_plantOneMore_82 rfl ?_
            refine aw_iload (n := 87) (i := 4) dX3_plantOneMore_85 rfl rfl ?_
            refine aw_iload (n := 89) (i := 5) dX3_plantOneMore_87 rfl rfl ?_
            refine aw_iload_n (n := 90) (i := 1) dX3_plantOneMore_89 rfl rfl rfl ?_
            refine aw_cVv (M := M_X3_plantOneMore) (n := 93) (As := [.int v4, .int v5, .int v1]) (rest := []) hG.1 lk_RX3_109 rfl rfl (sF_60 hS) (c_X1_tryPlant hG hS (h := Ok.bind h)) (by decide) (Nat.le_of_ble_eq_true rfl) (by decide) (by decide) dX3_plantOneMore_90 rfl (fun D_7 h => ?_)
            refine aw_aload_n (n := 94) (i := 0) dX3_plantOneMore_93 rfl rfl rfl ?_
            refine aw_getR (n := 97) (j := 1) (r := 60) hG.1 fl_RX3_31 (sF_68 hS) rfl dX3_plantOneMore_94 rfl ?_
            refine aw_iload_n (n := 98) (i := 1) dX3_plantOneMore_97 rfl rfl rfl ?_
            refine aw_iload_n (n := 99) (i := 3) dX3_plantOneMore_98 rfl rfl rfl ?_
            refine aw_cVi (M := M_X3_plantOneMore) (n := 102) (As := [.int v1, .int v3]) (rest := []) hG.1 lk_RX3_45 rfl rfl (sF_60 hS) (c_X1_weightsWon hG hS (h := Ok.bi h)) (by decide) (Nat.le_of_ble_eq_true rfl) (by decide) (by decide) dX3_plantOneMore_99 rfl (fun y_8 D_9 h => ?_)
            refine aw_istore (n := 104) (i := 6) (al' := [some (.ref 68), some (.int v1), some (.int v2), some (.int v3), some (.int v4), some (.int v5), some (.int y_8)]) dX3_plantOneMore_102 rfl rfl (by decide) rfl ?_
            refine aw_iload (n := 106) (i := 6) dX3_plantOneMore_104 rfl rfl ?_
            refine aw_iload_n (n := 107) (i := 3) dX3_plantOneMore_106 rfl rfl rfl ?_
            refine aw_icmp_le (n := 110) (tgt := 125) dX3_plantOneMore_107 rfl (by decide) (fun c => ?_) (fun c => ?_)
            · replace h := Ok.ift h c
              obtain ⟨v5_10, e_v5_10, h⟩ := Ok.let_ h
              refine aw_iinc (n := 128) (al' := [some (.ref 68), some (.int v1), some (.int v2), some (.int v3), some (.int v4), some (.int v5_10), some (.int y_8)]) dX3_plantOneMore_125 rfl rfl e_v5_10 (by decide) rfl ?_
              refine aw_goto (tgt := 42) dX3_plantOneMore_128 (by decide) ?_
              exact aw_le' (hL42 (v3, v5_10, D_9) (Ok.dn h :)) ⟨rfl, ⟨rfl, ⟨rfl, ⟨rfl, ⟨rfl, ⟨rfl, trivial⟩⟩⟩⟩⟩⟩
            · replace h := Ok.iff h c
              refine aw_iload (n := 112) (i := 6) dX3_plantOneMore_110 rfl rfl ?_
              refine aw_istore_n (n := 113) (i := 3) (al' := [some (.ref 68), some (.int v1), some (.int v2), some (.int y_8), some (.int v4), some (.int v5), some (.int y_8)]) dX3_plantOneMore_112 rfl rfl rfl (by decide) rfl ?_
              refine aw_aload_n (n := 114) (i := 0) dX3_plantOneMore_113 rfl rfl rfl ?_
              refine aw_iload (n := 116) (i := 4) dX3_plantOneMore_114 rfl rfl ?_
              obtain ⟨D_11, e_D_11, h⟩ := Ok.let_ h
              refine aw_putI (n := 119) (j := 8) hG.1 fl_RX3_113 (sF_68 hS) rfl e_D_11 dX3_plantOneMore_116 rfl ?_
              refine aw_aload_n (n := 120) (i := 0) dX3_plantOneMore_119 rfl rfl rfl ?_
              refine aw_iload (n := 122) (i := 5) dX3_plantOneMore_120 rfl rfl ?_
              obtain ⟨D_12, e_D_12, h⟩ := Ok.let_ h
              refine aw_putI (n := 125) (j := 9) hG.1 fl_RX3_116 (sF_68 hS) rfl e_D_12 dX3_plantOneMore_122 rfl ?_
              obtain ⟨v5_13, e_v5_13, h⟩ := Ok.let_ h
              refine aw_iinc (n := 128) (al' := [some (.ref 68), some (.int v1), some (.int v2), some (.int y_8), some (.int v4), some (.int v5_13), some (.int y_8)]) dX3_plantOneMore_125 rfl rfl e_v5_13 (by decide) rfl ?_
              refine aw_goto (tgt := 42) dX3_plantOneMore_128 (by decide) ?_
              exact aw_le' (hL42 (y_8, v5_13, D_12) (Ok.dn h :)) ⟨rfl, ⟨rfl, ⟨rfl, ⟨rfl, ⟨rfl, ⟨rfl, trivial⟩⟩⟩⟩⟩⟩
          · replace h := Ok.iff h c
            refine aw_goto (tgt := 125) dX3_plantOneMore_78 (by decide) ?_
            obtain ⟨v5_14, e_v5_14, h⟩ := Ok.let_ h
            refine aw_iinc (n := 128) (al' := [some (.ref 68), some (.int v1), some (.int v2), some (.int v3), some (.int v4), some (.int v5_14), none]) dX3_plantOneMore_125 rfl rfl e_v5_14 (by decide) rfl ?_
            refine aw_goto (tgt := 42) dX3_plantOneMore_128 (by decide) ?_
            exact aw_le' (hL42 (v3, v5_14, D_5) (Ok.dn h :)) ⟨rfl, ⟨rfl, ⟨rfl, ⟨rfl, ⟨rfl, ⟨rfl, trivial⟩⟩⟩⟩⟩⟩
    refine aw_iload (n := 29) (i := 4) dX3_plantOneMore_27 rfl rfl ?_
    refine aw_aload_n (n := 30) (i := 0) dX3_plantOneMore_29 rfl rfl rfl ?_
    refine aw_getR (n := 33) (j := 0) (r := 2) hG.1 fl_RX3_27 (sF_68 hS) rfl dX3_plantOneMore_30 rfl ?_
    refine aw_getI (n := 36) (j := 2) hG.1 fl_RX3_93 (sF_2 hS) rfl dX3_plantOneMore_33 rfl ?_
    refine aw_icmp_ge (n := 39) (tgt := 137) dX3_plantOneMore_36 rfl (by decide) (fun c => ?_) (fun c => ?_)
    · replace h := Ok.ift h c
      exact aw_le' (hJ_137 v3 D (hR27 (v3, D) (Ok.dn h :))) ⟨rfl, trivial⟩
    · replace h := Ok.iff h c
      refine aw_iconst (n := 40) (v := 0) dX3_plantOneMore_39 rfl (by decide) ?_
      refine aw_istore (n := 42) (i := 5) (al' := [some (.ref 68), some (.int v1), some (.int v2), some (.int v3), some (.int v4), some (.int 0), none]) dX3_plantOneMore_40 rfl rfl (by decide) rfl ?_
      exact aw_le' (hJ_42 v3 v4 0 D h) ⟨rfl, ⟨rfl, ⟨rfl, ⟨rfl, ⟨rfl, ⟨rfl, trivial⟩⟩⟩⟩⟩⟩
  refine aw_aload_n (n := 1) (i := 0) dX3_plantOneMore_0 rfl rfl rfl ?_
  refine aw_getR (n := 4) (j := 0) (r := 2) hG.1 fl_RX3_27 (sF_68 hS) rfl dX3_plantOneMore_1 rfl ?_
  refine aw_cVi (M := M_X3_plantOneMore) (n := 7) (As := []) (rest := []) hG.1 lk_RX3_39 rfl rfl (sF_2 hS) (c_X6_allWeights hG hS (h := Ok.bi h)) (by decide) (Nat.le_of_ble_eq_true rfl) (by decide) (by decide) dX3_plantOneMore_4 rfl (fun y_1 D_2 h => ?_)
  refine aw_istore_n (n := 8) (i := 2) (al' := [some (.ref 68), some (.int v1), some (.int y_1), none, none, none, none]) dX3_plantOneMore_7 rfl rfl rfl (by decide) rfl ?_
  refine aw_iconst (n := 9) (v := (-1)) dX3_plantOneMore_8 rfl (by decide) ?_
  refine aw_istore_n (n := 10) (i := 3) (al' := [some (.ref 68), some (.int v1), some (.int y_1), some (.int (-1)), none, none, none]) dX3_plantOneMore_9 rfl rfl rfl (by decide) rfl ?_
  refine aw_aload_n (n := 11) (i := 0) dX3_plantOneMore_10 rfl rfl rfl ?_
  refine aw_getR (n := 14) (j := 0) (r := 2) hG.1 fl_RX3_27 (sF_68 hS) rfl dX3_plantOneMore_11 rfl ?_
  refine aw_getI (n := 17) (j := 4) hG.1 fl_RX3_62 (sF_2 hS) rfl dX3_plantOneMore_14 rfl ?_
  refine aw_bipush (n := 19) (v := 12) dX3_plantOneMore_17 rfl (by decide) ?_
  refine aw_icmp_lt (n := 22) (tgt := 24) dX3_plantOneMore_19 rfl (by decide) (fun c => ?_) (fun c => ?_)
  · replace h := Ok.ift h c
    refine aw_iconst (n := 25) (v := 0) dX3_plantOneMore_24 rfl (by decide) ?_
    refine aw_istore (n := 27) (i := 4) (al' := [some (.ref 68), some (.int v1), some (.int y_1), some (.int (-1)), some (.int 0), none, none]) dX3_plantOneMore_25 rfl rfl (by decide) rfl ?_
    exact aw_le' (hJ_27 v1 y_1 (-1) 0 D_2 h) ⟨rfl, ⟨rfl, ⟨rfl, ⟨rfl, ⟨rfl, trivial⟩⟩⟩⟩⟩
  · replace h := Ok.iff h c
    refine aw_iconst (n := 23) (v := (-1)) dX3_plantOneMore_22 rfl (by decide) ?_
    exact aw_iret rfl (by decide) (by decide) dX3_plantOneMore_23 ⟨_, rfl, rfl, (Ok.dn h :)⟩
theorem dX2_placeOf_0 : decode cX2_placeOf 0 = .ok (.iload_n 0, 1) := by decide +kernel
theorem dX2_placeOf_1 : decode cX2_placeOf 1 = .ok (.iconst 5, 1) := by decide +kernel
theorem dX2_placeOf_2 : decode cX2_placeOf 2 = .ok (.imul, 1) := by decide +kernel
theorem dX2_placeOf_3 : decode cX2_placeOf 3 = .ok (.iload_n 1, 1) := by decide +kernel
theorem dX2_placeOf_4 : decode cX2_placeOf 4 = .ok (.iadd, 1) := by decide +kernel
theorem dX2_placeOf_5 : decode cX2_placeOf 5 = .ok (.iconst 5, 1) := by decide +kernel
theorem dX2_placeOf_6 : decode cX2_placeOf 6 = .ok (.imul, 1) := by decide +kernel
theorem dX2_placeOf_7 : decode cX2_placeOf 7 = .ok (.iload_n 2, 1) := by decide +kernel
theorem dX2_placeOf_8 : decode cX2_placeOf 8 = .ok (.iadd, 1) := by decide +kernel
theorem dX2_placeOf_9 : decode cX2_placeOf 9 = .ok (.iconst 5, 1) := by decide +kernel
theorem dX2_placeOf_10 : decode cX2_placeOf 10 = .ok (.imul, 1) := by decide +kernel
theorem dX2_placeOf_11 : decode cX2_placeOf 11 = .ok (.ireturn, 1) := by decide +kernel
def f_X2_placeOf (v0 : Int32) (v1 : Int32) (v2 : Int32) (D : aD) : Option (Int32 × aD) :=
  some (((((v0 * 5) + v1) * 5) + v2) * 5, D)
set_option maxRecDepth 100000 in
set_option maxHeartbeats 800000 in
theorem c_X2_placeOf {G : aG} (hG : gOK G) {shp : List aSh} (hS : aShp shp) {fr : Option Nat} {v0 : Int32} {v1 : Int32} {v2 : Int32} {D : aD} {K : Int32 → aD → Prop} (h : Ok2 (f_X2_placeOf v0 v1 v2 D) K) : AC G (aRm 1 0 0) M_X2_placeOf [.int v0, .int v1, .int v2] fr shp D (aQi shp K) := by
  replace h := Ok2.ok h
  unfold f_X2_placeOf at h
  refine AC.of (al := [some (.int v0), some (.int v1), some (.int v2)]) (r := 0) (by decide) (Nat.le_of_ble_eq_true rfl) rfl ?_
  refine aw_iload_n (n := 1) (i := 0) dX2_placeOf_0 rfl rfl rfl ?_
  refine aw_iconst (n := 2) (v := 5) dX2_placeOf_1 rfl (by decide) ?_
  refine aw_imul (n := 3) dX2_placeOf_2 rfl ?_
  refine aw_iload_n (n := 4) (i := 1) dX2_placeOf_3 rfl rfl rfl ?_
  refine aw_iadd (n := 5) dX2_placeOf_4 rfl ?_
  refine aw_iconst (n := 6) (v := 5) dX2_placeOf_5 rfl (by decide) ?_
  refine aw_imul (n := 7) dX2_placeOf_6 rfl ?_
  refine aw_iload_n (n := 8) (i := 2) dX2_placeOf_7 rfl rfl rfl ?_
  refine aw_iadd (n := 9) dX2_placeOf_8 rfl ?_
  refine aw_iconst (n := 10) (v := 5) dX2_placeOf_9 rfl (by decide) ?_
  refine aw_imul (n := 11) dX2_placeOf_10 rfl ?_
  exact aw_iret rfl (by decide) (by decide) dX2_placeOf_11 ⟨_, rfl, rfl, (Ok.dn h :)⟩
theorem dX2_keepMarks_0 : decode cX2_keepMarks 0 = .ok (.aload_n 0, 1) := by decide +kernel
theorem dX2_keepMarks_1 : decode cX2_keepMarks 1 = .ok (.getfield 18, 3) := by decide +kernel
theorem dX2_keepMarks_4 : decode cX2_keepMarks 4 = .ok (.iconst 0, 1) := by decide +kernel
theorem dX2_keepMarks_5 : decode cX2_keepMarks 5 = .ok (.invokestatic 84, 3) := by decide +kernel
theorem dX2_keepMarks_8 : decode cX2_keepMarks 8 = .ok (.aload_n 0, 1) := by decide +kernel
theorem dX2_keepMarks_9 : decode cX2_keepMarks 9 = .ok (.getfield 32, 3) := by decide +kernel
theorem dX2_keepMarks_12 : decode cX2_keepMarks 12 = .ok (.aload_n 0, 1) := by decide +kernel
theorem dX2_keepMarks_13 : decode cX2_keepMarks 13 = .ok (.getfield 18, 3) := by decide +kernel
theorem dX2_keepMarks_16 : decode cX2_keepMarks 16 = .ok (.invokevirtual 89, 3) := by decide +kernel
theorem dX2_keepMarks_19 : decode cX2_keepMarks 19 = .ok (.aload_n 0, 1) := by decide +kernel
theorem dX2_keepMarks_20 : decode cX2_keepMarks 20 = .ok (.getfield 18, 3) := by decide +kernel
theorem dX2_keepMarks_23 : decode cX2_keepMarks 23 = .ok (.iconst 0, 1) := by decide +kernel
theorem dX2_keepMarks_24 : decode cX2_keepMarks 24 = .ok (.aload_n 0, 1) := by decide +kernel
theorem dX2_keepMarks_25 : decode cX2_keepMarks 25 = .ok (.getfield 21, 3) := by decide +kernel
theorem dX2_keepMarks_28 : decode cX2_keepMarks 28 = .ok (.iload_n 1, 1) := by decide +kernel
theorem dX2_keepMarks_29 : decode cX2_keepMarks 29 = .ok (.iconst 5, 1) := by decide +kernel
theorem dX2_keepMarks_30 : decode cX2_keepMarks 30 = .ok (.invokestatic 49, 3) := by decide +kernel
theorem dX2_keepMarks_33 : decode cX2_keepMarks 33 = .ok (.return_, 1) := by decide +kernel
def f_X2_keepMarks (v1 : Int32) (D : aD) : Option (aD) :=
  (f_J7_fill_53178 77 5 0 D).bind (fun D_1 => (f_X0_addMarks 77 5 D_1).bind (fun D_2 => aGd (aCg 0 v1 5 5 625) (aLet (aCp D_2 77 78 0 v1 5) (fun D_4 => some D_4))))
set_option maxRecDepth 100000 in
set_option maxHeartbeats 800000 in
theorem c_X2_keepMarks {G : aG} (hG : gOK G) {shp : List aSh} (hS : aShp shp) {fr : Option Nat} {v1 : Int32} {D : aD} {K : aD → Prop} (h : Ok (f_X2_keepMarks v1 D) K) : AC G (aRm 3 0 0) M_X2_keepMarks [.ref 74, .int v1] fr shp D (aQv shp K) := by
  unfold f_X2_keepMarks at h
  refine AC.of (al := [some (.ref 74), some (.int v1)]) (r := 0) (by decide) (Nat.le_of_ble_eq_true rfl) rfl ?_
  refine aw_aload_n (n := 1) (i := 0) dX2_keepMarks_0 rfl rfl rfl ?_
  refine aw_getR (n := 4) (j := 5) (r := 77) hG.1 fl_RX2_18 (sF_74 hS) rfl dX2_keepMarks_1 rfl ?_
  refine aw_iconst (n := 5) (v := 0) dX2_keepMarks_4 rfl (by decide) ?_
  refine aw_cSv (M := M_X2_keepMarks) (n := 8) (As := [.ref 77, .int 0]) (rest := []) lk_RX2_84 rfl rfl (c_J7_fill_53178 hG (h := Ok.bind h) (sF_77 hS)) (by decide) (Nat.le_of_ble_eq_true rfl) (by decide) (by decide) dX2_keepMarks_5 rfl (fun D_1 h => ?_)
  refine aw_aload_n (n := 9) (i := 0) dX2_keepMarks_8 rfl rfl rfl ?_
  refine aw_getR (n := 12) (j := 2) (r := 57) hG.1 fl_RX2_32 (sF_74 hS) rfl dX2_keepMarks_9 rfl ?_
  refine aw_aload_n (n := 13) (i := 0) dX2_keepMarks_12 rfl rfl rfl ?_
  refine aw_getR (n := 16) (j := 5) (r := 77) hG.1 fl_RX2_18 (sF_74 hS) rfl dX2_keepMarks_13 rfl ?_
  refine aw_cVv (M := M_X2_keepMarks) (n := 19) (As := [.ref 77]) (rest := []) hG.1 lk_RX2_89 rfl rfl (sF_57 hS) (c_X0_addMarks hG hS (h := Ok.bind h) (sF_77 hS)) (by decide) (Nat.le_of_ble_eq_true rfl) (by decide) (by decide) dX2_keepMarks_16 rfl (fun D_2 h => ?_)
  refine aw_aload_n (n := 20) (i := 0) dX2_keepMarks_19 rfl rfl rfl ?_
  refine aw_getR (n := 23) (j := 5) (r := 77) hG.1 fl_RX2_18 (sF_74 hS) rfl dX2_keepMarks_20 rfl ?_
  refine aw_iconst (n := 24) (v := 0) dX2_keepMarks_23 rfl (by decide) ?_
  refine aw_aload_n (n := 25) (i := 0) dX2_keepMarks_24 rfl rfl rfl ?_
  refine aw_getR (n := 28) (j := 6) (r := 78) hG.1 fl_RX2_21 (sF_74 hS) rfl dX2_keepMarks_25 rfl ?_
  refine aw_iload_n (n := 29) (i := 1) dX2_keepMarks_28 rfl rfl rfl ?_
  refine aw_iconst (n := 30) (v := 5) dX2_keepMarks_29 rfl (by decide) ?_
  obtain ⟨g_3, h⟩ := Ok.gd h
  obtain ⟨D_4, e_D_4, h⟩ := Ok.let_ h
  refine aw_copy (M := M_X2_keepMarks) (n := 33) hG.1 la_RX2_49 ma_copy.1 ma_copy.2.1 ma_copy.2.2 (sF_77 hS) (sF_78 hS) (aCg_ok g_3).1 (aCg_ok g_3).2.1 (aCg_ok g_3).2.2.1 (aCg_ok g_3).2.2.2.1 (aCg_ok g_3).2.2.2.2 e_D_4 (by decide) (Nat.le_of_ble_eq_true rfl) dX2_keepMarks_30 rfl ?_
  exact aw_vret rfl (by decide) (by decide) dX2_keepMarks_33 ⟨rfl, rfl, (Ok.dn h :)⟩
theorem dX2_markAll_0 : decode cX2_markAll 0 = .ok (.iconst 0, 1) := by decide +kernel
theorem dX2_markAll_1 : decode cX2_markAll 1 = .ok (.istore_n 1, 1) := by decide +kernel
theorem dX2_markAll_2 : decode cX2_markAll 2 = .ok (.iload_n 1, 1) := by decide +kernel
theorem dX2_markAll_3 : decode cX2_markAll 3 = .ok (.iconst 5, 1) := by decide +kernel
theorem dX2_markAll_4 : decode cX2_markAll 4 = .ok (.if_icmp .ge 98, 3) := by decide +kernel
theorem dX2_markAll_7 : decode cX2_markAll 7 = .ok (.iconst 0, 1) := by decide +kernel
theorem dX2_markAll_8 : decode cX2_markAll 8 = .ok (.istore_n 2, 1) := by decide +kernel
theorem dX2_markAll_9 : decode cX2_markAll 9 = .ok (.aload_n 0, 1) := by decide +kernel
theorem dX2_markAll_10 : decode cX2_markAll 10 = .ok (.getfield 24, 3) := by decide +kernel
theorem dX2_markAll_13 : decode cX2_markAll 13 = .ok (.getfield 59, 3) := by decide +kernel
theorem dX2_markAll_16 : decode cX2_markAll 16 = .ok (.iload_n 1, 1) := by decide +kernel
theorem dX2_markAll_17 : decode cX2_markAll 17 = .ok (.iaload, 1) := by decide +kernel
theorem dX2_markAll_18 : decode cX2_markAll 18 = .ok (.ifCond .le 78, 3) := by decide +kernel
theorem dX2_markAll_21 : decode cX2_markAll 21 = .ok (.iload_n 2, 1) := by decide +kernel
theorem dX2_markAll_22 : decode cX2_markAll 22 = .ok (.aload_n 0, 1) := by decide +kernel
theorem dX2_markAll_23 : decode cX2_markAll 23 = .ok (.getfield 24, 3) := by decide +kernel
theorem dX2_markAll_26 : decode cX2_markAll 26 = .ok (.getfield 39, 3) := by decide +kernel
theorem dX2_markAll_29 : decode cX2_markAll 29 = .ok (.if_icmp .ge 67, 3) := by decide +kernel
theorem dX2_markAll_32 : decode cX2_markAll 32 = .ok (.iconst 0, 1) := by decide +kernel
theorem dX2_markAll_33 : decode cX2_markAll 33 = .ok (.istore_n 3, 1) := by decide +kernel
theorem dX2_markAll_34 : decode cX2_markAll 34 = .ok (.iload_n 3, 1) := by decide +kernel
theorem dX2_markAll_35 : decode cX2_markAll 35 = .ok (.aload_n 0, 1) := by decide +kernel
theorem dX2_markAll_36 : decode cX2_markAll 36 = .ok (.getfield 24, 3) := by decide +kernel
theorem dX2_markAll_39 : decode cX2_markAll 39 = .ok (.getfield 39, 3) := by decide +kernel
theorem dX2_markAll_42 : decode cX2_markAll 42 = .ok (.if_icmp .ge 48, 3) := by decide +kernel
theorem dX2_markAll_45 : decode cX2_markAll 45 = .ok (.aload_n 0, 1) := by decide +kernel
theorem dX2_markAll_46 : decode cX2_markAll 46 = .ok (.getfield 32, 3) := by decide +kernel
theorem dX2_markAll_49 : decode cX2_markAll 49 = .ok (.aload_n 0, 1) := by decide +kernel
theorem dX2_markAll_50 : decode cX2_markAll 50 = .ok (.getfield 24, 3) := by decide +kernel
theorem dX2_markAll_53 : decode cX2_markAll 53 = .ok (.getfield 62, 3) := by decide +kernel
theorem dX2_markAll_56 : decode cX2_markAll 56 = .ok (.iload_n 3, 1) := by decide +kernel
theorem dX2_markAll_57 : decode cX2_markAll 57 = .ok (.iaload, 1) := by decide +kernel
theorem dX2_markAll_58 : decode cX2_markAll 58 = .ok (.aload_n 0, 1) := by decide +kernel
theorem dX2_markAll_59 : decode cX2_markAll 59 = .ok (.getfield 28, 3) := by decide +kernel
theorem dX2_markAll_62 : decode cX2_markAll 62 = .ok (.getfield 65, 3) := by decide +kernel
theorem dX2_markAll_65 : decode cX2_markAll 65 = .ok (.iload_n 2, 1) := by decide +kernel
theorem dX2_markAll_66 : decode cX2_markAll 66 = .ok (.iadd, 1) := by decide +kernel
theorem dX2_markAll_67 : decode cX2_markAll 67 = .ok (.bipush 24, 2) := by decide +kernel
theorem dX2_markAll_69 : decode cX2_markAll 69 = .ok (.irem, 1) := by decide +kernel
theorem dX2_markAll_70 : decode cX2_markAll 70 = .ok (.iload_n 1, 1) := by decide +kernel
theorem dX2_markAll_71 : decode cX2_markAll 71 = .ok (.invokevirtual 70, 3) := by decide +kernel
theorem dX2_markAll_74 : decode cX2_markAll 74 = .ok (.aload_n 0, 1) := by decide +kernel
theorem dX2_markAll_75 : decode cX2_markAll 75 = .ok (.iload_n 1, 1) := by decide +kernel
theorem dX2_markAll_76 : decode cX2_markAll 76 = .ok (.iload_n 2, 1) := by decide +kernel
theorem dX2_markAll_77 : decode cX2_markAll 77 = .ok (.iload_n 3, 1) := by decide +kernel
theorem dX2_markAll_78 : decode cX2_markAll 78 = .ok (.invokestatic 76, 3) := by decide +kernel
theorem dX2_markAll_81 : decode cX2_markAll 81 = .ok (.invokevirtual 80, 3) := by decide +kernel
theorem dX2_markAll_84 : decode cX2_markAll 84 = .ok (.iinc 3 1, 3) := by decide +kernel
theorem dX2_markAll_87 : decode cX2_markAll 87 = .ok (.goto (-53), 3) := by decide +kernel
theorem dX2_markAll_90 : decode cX2_markAll 90 = .ok (.iinc 2 1, 3) := by decide +kernel
theorem dX2_markAll_93 : decode cX2_markAll 93 = .ok (.goto (-84), 3) := by decide +kernel
theorem dX2_markAll_96 : decode cX2_markAll 96 = .ok (.iinc 1 1, 3) := by decide +kernel
theorem dX2_markAll_99 : decode cX2_markAll 99 = .ok (.goto (-97), 3) := by decide +kernel
theorem dX2_markAll_102 : decode cX2_markAll 102 = .ok (.return_, 1) := by decide +kernel
def J_X2_markAll_102 (D : aD) : Option (aD) :=
  some D
def J_X2_markAll_96 (v1 : Int32) (D : aD) : Option ((Int32 × aD) ⊕ ((aD))) :=
  aLet (v1 + 1) (fun v1_1 => some (.inl (v1_1, D)))
def J_X2_markAll_90 (v1 : Int32) (v2 : Int32) (D : aD) : Option ((Int32 × aD) ⊕ ((aD))) :=
  aLet (v2 + 1) (fun v2_3 => some (.inl (v2_3, D)))
def B_X2_markAll_34 (v1 : Int32) (v2 : Int32) (v3 : Int32) (D : aD) : Option ((Int32 × aD) ⊕ ((aD))) :=
  if gI D 2 5 ≤ v3 then (some (.inr D)) else (aGd (aIn v3 5) ((f_X0_fill (gI D 11 v3.toNatClampNeg) (((gI D 40 2) + v2) - ((gI D 40 2) + v2) / 24 * 24) v1 D).bind (fun D_5 => aBi (f_X2_placeOf v1 v2 v3 D_5) (fun y_6 D_7 => (f_X2_keepMarks y_6 D_7).bind (fun D_8 => aLet (v3 + 1) (fun v3_9 => some (.inl (v3_9, D_8))))))))
def J_X2_markAll_34 (v1 : Int32) (v2 : Int32) (v3 : Int32) (D : aD) : Option ((Int32 × aD) ⊕ ((aD))) :=
  (aLp (fun s => B_X2_markAll_34 v1 v2 s.1 s.2) (v3, D)).bind (fun r => J_X2_markAll_90 v1 v2 r)
def B_X2_markAll_9 (v1 : Int32) (v2 : Int32) (D : aD) : Option ((Int32 × aD) ⊕ ((aD))) :=
  aGd (aIn v1 5) (if gI D 14 v1.toNatClampNeg ≤ 0 then (some (.inr D)) else (if gI D 2 5 ≤ v2 then (some (.inr D)) else (J_X2_markAll_34 v1 v2 0 D)))
def J_X2_markAll_9 (v1 : Int32) (v2 : Int32) (D : aD) : Option ((Int32 × aD) ⊕ ((aD))) :=
  (aLp (fun s => B_X2_markAll_9 v1 s.1 s.2) (v2, D)).bind (fun r => J_X2_markAll_96 v1 r)
def B_X2_markAll_2 (v1 : Int32) (D : aD) : Option ((Int32 × aD) ⊕ ((aD))) :=
  if 5 ≤ v1 then (some (.inr D)) else (J_X2_markAll_9 v1 0 D)
def J_X2_markAll_2 (v1 : Int32) (D : aD) : Option (aD) :=
  (aLp (fun s => B_X2_markAll_2 s.1 s.2) (v1, D)).bind (fun r => J_X2_markAll_102 r)
def f_X2_markAll (D : aD) : Option (aD) :=
  J_X2_markAll_2 0 D
set_option maxRecDepth 100000 in
set_option maxHeartbeats 800000 in
theorem c_X2_markAll {G : aG} (hG : gOK G) {shp : List aSh} (hS : aShp shp) {fr : Option Nat} {D : aD} {K : aD → Prop} (h : Ok (f_X2_markAll D) K) : AC G (aRm 5 0 0) M_X2_markAll [.ref 74] fr shp D (aQv shp K) := by
  unfold f_X2_markAll at h
  refine AC.of (al := [some (.ref 74), none, none, none]) (r := 3) (by decide) (Nat.le_of_ble_eq_true rfl) rfl ?_
  have hJ_102 : ∀ (D : aD), Ok (J_X2_markAll_102 D) K → AW G (aRm 5 0 0) M_X2_markAll fr 0 0 102 [none, none, none, none] [] shp D (aQv shp K) := by
    intro D h
    unfold J_X2_markAll_102 at h
    exact aw_vret rfl (by decide) (by decide) dX2_markAll_102 ⟨rfl, rfl, (Ok.dn h :)⟩
  have hJ_2 : ∀ (v1 : Int32) (D : aD), Ok (J_X2_markAll_2 v1 D) K → AW G (aRm 5 0 0) M_X2_markAll fr 0 0 2 [some (.ref 74), some (.int v1), none, none] [] shp D (aQv shp K) := by
    intro v1 D h
    unfold J_X2_markAll_2 at h
    refine Ok.lp (P := fun s => AW G (aRm 5 0 0) M_X2_markAll fr 0 0 2 [some (.ref 74), some (.int (s.1)), none, none] [] shp s.2 (aQv shp K)) (fun s Kb2 hL2 hR2 h => ?_) (v1, D) (Ok.bind h)
    obtain ⟨v1, D⟩ := s
    replace h : Ok (B_X2_markAll_2 v1 D) Kb2 := h
    unfold B_X2_markAll_2 at h
    have hJ_96 : ∀ (v1 : Int32) (D : aD), Ok (J_X2_markAll_96 v1 D) Kb2 → AW G (aRm 5 0 0) M_X2_markAll fr 0 0 96 [some (.ref 74), some (.int v1), none, none] [] shp D (aQv shp K) := by
      intro v1 D h
      unfold J_X2_markAll_96 at h
      obtain ⟨v1_1, e_v1_1, h⟩ := Ok.let_ h
      refine aw_iinc (n := 99) (al' := [some (.ref 74), some (.int v1_1), none, none]) dX2_markAll_96 rfl rfl e_v1_1 (by decide) rfl ?_
      refine aw_goto (tgt := 2) dX2_markAll_99 (by decide) ?_
      exact aw_le' (hL2 (v1_1, D) (Ok.dn h :)) ⟨rfl, ⟨rfl, trivial⟩⟩
    have hJ_9 : ∀ (v1 : Int32) (v2 : Int32) (D : aD), Ok (J_X2_markAll_9 v1 v2 D) Kb2 → AW G (aRm 5 0 0) M_X2_markAll fr 0 0 9 [some (.ref 74), some (.int v1), some (.int v2), none] [] shp D (aQv shp K) := by
      intro v1 v2 D h
      unfold J_X2_markAll_9 at h
      refine Ok.lp (P := fun s => AW G (aRm 5 0 0) M_X2_markAll fr 0 0 9 [some (.ref 74), some (.int v1), some (.int (s.1)), none] [] shp s.2 (aQv shp K)) (fun s Kb9 hL9 hR9 h => ?_) (v2, D) (Ok.bind h)
      obtain ⟨v2, D⟩ := s
      replace h : Ok (B_X2_markAll_9 v1 v2 D) Kb9 := h
      unfold B_X2_markAll_9 at h
      have hJ_90 : ∀ (v2 : Int32) (D : aD), Ok (J_X2_markAll_90 v1 v2 D) Kb9 → AW G (aRm 5 0 0) M_X2_markAll fr 0 0 90 [some (.ref 74), some (.int v1), some (.int v2), none] [] shp D (aQv shp K) := by
        intro v2 D h
        unfold J_X2_markAll_90 at h
        obtain ⟨v2_3, e_v2_3, h⟩ := Ok.let_ h
        refine aw_iinc (n := 93) (al' := [some (.ref 74), some (.int v1), some (.int v2_3), none]) dX2_markAll_90 rfl rfl e_v2_3 (by decide) rfl ?_
        refine aw_goto (tgt := 9) dX2_markAll_93 (by decide) ?_
        exact aw_le' (hL9 (v2_3, D) (Ok.dn h :)) ⟨rfl, ⟨rfl, ⟨rfl, trivial⟩⟩⟩
      have hJ_34 : ∀ (v2 : Int32) (v3 : Int32) (D : aD), Ok (J_X2_markAll_34 v1 v2 v3 D) Kb9 → AW G (aRm 5 0 0) M_X2_markAll fr 0 0 34 [some (.ref 74), some (.int v1), some (.int v2), some (.int v3)] [] shp D (aQv shp K) := by
        intro v2 v3 D h
        unfold J_X2_markAll_34 at h
        refine Ok.lp (P := fun s => AW G (aRm 5 0 0) M_X2_markAll fr 0 0 34 [some (.ref 74), some (.int v1), some (.int v2), some (.int (s.1))] [] shp s.2 (aQv shp K)) (fun s Kb34 hL34 hR34 h => ?_) (v3, D) (Ok.bind h)
        obtain ⟨v3, D⟩ := s
        replace h : Ok (B_X2_markAll_34 v1 v2 v3 D) Kb34 := h
        unfold B_X2_markAll_34 at h
        refine aw_iload_n (n := 35) (i := 3) dX2_markAll_34 rfl rfl rfl ?_
        refine aw_aload_n (n := 36) (i := 0) dX2_markAll_35 rfl rfl rfl ?_
        refine aw_getR (n := 39) (j := 0) (r := 2) hG.1 fl_RX2_24 (sF_74 hS) rfl dX2_markAll_36 rfl ?_
        refine aw_getI (n := 42) (j := 5) hG.1 fl_RX2_39 (sF_2 hS) rfl dX2_markAll_39 rfl ?_
        refine aw_icmp_ge (n := 45) (tgt := 90) dX2_markAll_42 rfl (by decide) (fun c => ?_) (fun c => ?_)
        · replace h := Ok.ift h c
          exact aw_le' (hJ_90 v2 D (hR34 D (Ok.dn h :))) ⟨rfl, ⟨rfl, ⟨rfl, trivial⟩⟩⟩
        · replace h := Ok.iff h c
          refine aw_aload_n (n := 46) (i := 0) dX2_markAll_45 rfl rfl rfl ?_
          refine aw_getR (n := 49) (j := 2) (r := 57) hG.1 fl_RX2_32 (sF_74 hS) rfl dX2_markAll_46 rfl ?_
          refine aw_aload_n (n := 50) (i := 0) dX2_markAll_49 rfl rfl rfl ?_
          refine aw_getR (n := 53) (j := 0) (r := 2) hG.1 fl_RX2_24 (sF_74 hS) rfl dX2_markAll_50 rfl ?_
          refine aw_getR (n := 56) (j := 13) (r := 11) hG.1 fl_RX2_62 (sF_2 hS) rfl dX2_markAll_53 rfl ?_
          refine aw_iload_n (n := 57) (i := 3) dX2_markAll_56 rfl rfl rfl ?_
          obtain ⟨g_4, h⟩ := Ok.gd h
          refine aw_iaload (n := 58) hG.1 (sF_11 hS) (aIn_in g_4) dX2_markAll_57 rfl ?_
          refine aw_aload_n (n := 59) (i := 0) dX2_markAll_58 rfl rfl rfl ?_
          refine aw_getR (n := 62) (j := 1) (r := 40) hG.1 fl_RX2_28 (sF_74 hS) rfl dX2_markAll_59 rfl ?_
          refine aw_getI (n := 65) (j := 2) hG.1 fl_RX2_65 (sF_40 hS) rfl dX2_markAll_62 rfl ?_
          refine aw_iload_n (n := 66) (i := 2) dX2_markAll_65 rfl rfl rfl ?_
          refine aw_iadd (n := 67) dX2_markAll_66 rfl ?_
          refine aw_bipush (n := 69) (v := 24) dX2_markAll_67 rfl (by decide) ?_
          refine aw_irem (n := 70) dX2_markAll_69 rfl (by decide) ?_
          refine aw_iload_n (n := 71) (i := 1) dX2_markAll_70 rfl rfl rfl ?_
          refine aw_cVv (M := M_X2_markAll) (n := 74) (As := [.int (gI D 11 v3.toNatClampNeg), .int (((gI D 40 2) + v2) - ((gI D 40 2) + v2) / 24 * 24), .int v1]) (rest := []) hG.1 lk_RX2_70 rfl rfl (sF_57 hS) (c_X0_fill hG hS (h := Ok.bind h)) (by decide) (Nat.le_of_ble_eq_true rfl) (by decide) (by decide) dX2_markAll_71 rfl (fun D_5 h => ?_)
          refine aw_aload_n (n := 75) (i := 0) dX2_markAll_74 rfl rfl rfl ?_
          refine aw_iload_n (n := 76) (i := 1) dX2_markAll_75 rfl rfl rfl ?_
          refine aw_iload_n (n := 77) (i := 2) dX2_markAll_76 rfl rfl rfl ?_
          refine aw_iload_n (n := 78) (i := 3) dX2_markAll_77 rfl rfl rfl ?_
          refine aw_cSi (M := M_X2_markAll) (n := 81) (As := [.int v1, .int v2, .int v3]) (rest := [.ref 74]) lk_RX2_76 rfl rfl (c_X2_placeOf hG hS (h := Ok.bi h)) (by decide) (Nat.le_of_ble_eq_true rfl) (by decide) (by decide) dX2_markAll_78 rfl (fun y_6 D_7 h => ?_)
          refine aw_cVv (M := M_X2_markAll) (n := 84) (As := [.int y_6]) (rest := []) hG.1 lk_RX2_80 rfl rfl (sF_74 hS) (c_X2_keepMarks hG hS (h := Ok.bind h)) (by decide) (Nat.le_of_ble_eq_true rfl) (by decide) (by decide) dX2_markAll_81 rfl (fun D_8 h => ?_)
          obtain ⟨v3_9, e_v3_9, h⟩ := Ok.let_ h
          refine aw_iinc (n := 87) (al' := [some (.ref 74), some (.int v1), some (.int v2), some (.int v3_9)]) dX2_markAll_84 rfl rfl e_v3_9 (by decide) rfl ?_
          refine aw_goto (tgt := 34) dX2_markAll_87 (by decide) ?_
          exact aw_le' (hL34 (v3_9, D_8) (Ok.dn h :)) ⟨rfl, ⟨rfl, ⟨rfl, ⟨rfl, trivial⟩⟩⟩⟩
      refine aw_aload_n (n := 10) (i := 0) dX2_markAll_9 rfl rfl rfl ?_
      refine aw_getR (n := 13) (j := 0) (r := 2) hG.1 fl_RX2_24 (sF_74 hS) rfl dX2_markAll_10 rfl ?_
      refine aw_getR (n := 16) (j := 16) (r := 14) hG.1 fl_RX2_59 (sF_2 hS) rfl dX2_markAll_13 rfl ?_
      refine aw_iload_n (n := 17) (i := 1) dX2_markAll_16 rfl rfl rfl ?_
      obtain ⟨g_2, h⟩ := Ok.gd h
      refine aw_iaload (n := 18) hG.1 (sF_14 hS) (aIn_in g_2) dX2_markAll_17 rfl ?_
      refine aw_if_le (n := 21) (tgt := 96) dX2_markAll_18 rfl (by decide) (fun c => ?_) (fun c => ?_)
      · replace h := Ok.ift h c
        exact aw_le' (hJ_96 v1 D (hR9 D (Ok.dn h :))) ⟨rfl, ⟨rfl, trivial⟩⟩
      · replace h := Ok.iff h c
        refine aw_iload_n (n := 22) (i := 2) dX2_markAll_21 rfl rfl rfl ?_
        refine aw_aload_n (n := 23) (i := 0) dX2_markAll_22 rfl rfl rfl ?_
        refine aw_getR (n := 26) (j := 0) (r := 2) hG.1 fl_RX2_24 (sF_74 hS) rfl dX2_markAll_23 rfl ?_
        refine aw_getI (n := 29) (j := 5) hG.1 fl_RX2_39 (sF_2 hS) rfl dX2_markAll_26 rfl ?_
        refine aw_icmp_ge (n := 32) (tgt := 96) dX2_markAll_29 rfl (by decide) (fun c => ?_) (fun c => ?_)
        · replace h := Ok.ift h c
          exact aw_le' (hJ_96 v1 D (hR9 D (Ok.dn h :))) ⟨rfl, ⟨rfl, trivial⟩⟩
        · replace h := Ok.iff h c
          refine aw_iconst (n := 33) (v := 0) dX2_markAll_32 rfl (by decide) ?_
          refine aw_istore_n (n := 34) (i := 3) (al' := [some (.ref 74), some (.int v1), some (.int v2), some (.int 0)]) dX2_markAll_33 rfl rfl rfl (by decide) rfl ?_
          exact aw_le' (hJ_34 v2 0 D h) ⟨rfl, ⟨rfl, ⟨rfl, ⟨rfl, trivial⟩⟩⟩⟩
    refine aw_iload_n (n := 3) (i := 1) dX2_markAll_2 rfl rfl rfl ?_
    refine aw_iconst (n := 4) (v := 5) dX2_markAll_3 rfl (by decide) ?_
    refine aw_icmp_ge (n := 7) (tgt := 102) dX2_markAll_4 rfl (by decide) (fun c => ?_) (fun c => ?_)
    · replace h := Ok.ift h c
      exact aw_le' (hJ_102 D (hR2 D (Ok.dn h :))) trivial
    · replace h := Ok.iff h c
      refine aw_iconst (n := 8) (v := 0) dX2_markAll_7 rfl (by decide) ?_
      refine aw_istore_n (n := 9) (i := 2) (al' := [some (.ref 74), some (.int v1), some (.int 0), none]) dX2_markAll_8 rfl rfl rfl (by decide) rfl ?_
      exact aw_le' (hJ_9 v1 0 D h) ⟨rfl, ⟨rfl, ⟨rfl, trivial⟩⟩⟩
  refine aw_iconst (n := 1) (v := 0) dX2_markAll_0 rfl (by decide) ?_
  refine aw_istore_n (n := 2) (i := 1) (al' := [some (.ref 74), some (.int 0), none, none]) dX2_markAll_1 rfl rfl rfl (by decide) rfl ?_
  exact aw_le' (hJ_2 0 D h) ⟨rfl, ⟨rfl, trivial⟩⟩
theorem dX2_difference_0 : decode cX2_difference 0 = .ok (.iconst 0, 1) := by decide +kernel
theorem dX2_difference_1 : decode cX2_difference 1 = .ok (.istore_n 2, 1) := by decide +kernel
theorem dX2_difference_2 : decode cX2_difference 2 = .ok (.iconst 0, 1) := by decide +kernel
theorem dX2_difference_3 : decode cX2_difference 3 = .ok (.istore_n 3, 1) := by decide +kernel
theorem dX2_difference_4 : decode cX2_difference 4 = .ok (.iconst 0, 1) := by decide +kernel
theorem dX2_difference_5 : decode cX2_difference 5 = .ok (.istore 4, 2) := by decide +kernel
theorem dX2_difference_7 : decode cX2_difference 7 = .ok (.iload 4, 2) := by decide +kernel
theorem dX2_difference_9 : decode cX2_difference 9 = .ok (.aload_n 0, 1) := by decide +kernel
theorem dX2_difference_10 : decode cX2_difference 10 = .ok (.getfield 24, 3) := by decide +kernel
theorem dX2_difference_13 : decode cX2_difference 13 = .ok (.getfield 103, 3) := by decide +kernel
theorem dX2_difference_16 : decode cX2_difference 16 = .ok (.if_icmp .ge 93, 3) := by decide +kernel
theorem dX2_difference_19 : decode cX2_difference 19 = .ok (.iconst 0, 1) := by decide +kernel
theorem dX2_difference_20 : decode cX2_difference 20 = .ok (.istore 5, 2) := by decide +kernel
theorem dX2_difference_22 : decode cX2_difference 22 = .ok (.iconst 0, 1) := by decide +kernel
theorem dX2_difference_23 : decode cX2_difference 23 = .ok (.istore 6, 2) := by decide +kernel
theorem dX2_difference_25 : decode cX2_difference 25 = .ok (.iload 6, 2) := by decide +kernel
theorem dX2_difference_27 : decode cX2_difference 27 = .ok (.aload_n 0, 1) := by decide +kernel
theorem dX2_difference_28 : decode cX2_difference 28 = .ok (.getfield 24, 3) := by decide +kernel
theorem dX2_difference_31 : decode cX2_difference 31 = .ok (.getfield 39, 3) := by decide +kernel
theorem dX2_difference_34 : decode cX2_difference 34 = .ok (.if_icmp .ge 35, 3) := by decide +kernel
theorem dX2_difference_37 : decode cX2_difference 37 = .ok (.iload 5, 2) := by decide +kernel
theorem dX2_difference_39 : decode cX2_difference 39 = .ok (.aload_n 0, 1) := by decide +kernel
theorem dX2_difference_40 : decode cX2_difference 40 = .ok (.getfield 21, 3) := by decide +kernel
theorem dX2_difference_43 : decode cX2_difference 43 = .ok (.iload_n 1, 1) := by decide +kernel
theorem dX2_difference_44 : decode cX2_difference 44 = .ok (.iload 6, 2) := by decide +kernel
theorem dX2_difference_46 : decode cX2_difference 46 = .ok (.aload_n 0, 1) := by decide +kernel
theorem dX2_difference_47 : decode cX2_difference 47 = .ok (.getfield 9, 3) := by decide +kernel
theorem dX2_difference_50 : decode cX2_difference 50 = .ok (.iload 6, 2) := by decide +kernel
theorem dX2_difference_52 : decode cX2_difference 52 = .ok (.iaload, 1) := by decide +kernel
theorem dX2_difference_53 : decode cX2_difference 53 = .ok (.invokestatic 76, 3) := by decide +kernel
theorem dX2_difference_56 : decode cX2_difference 56 = .ok (.iload 4, 2) := by decide +kernel
theorem dX2_difference_58 : decode cX2_difference 58 = .ok (.iadd, 1) := by decide +kernel
theorem dX2_difference_59 : decode cX2_difference 59 = .ok (.iaload, 1) := by decide +kernel
theorem dX2_difference_60 : decode cX2_difference 60 = .ok (.iadd, 1) := by decide +kernel
theorem dX2_difference_61 : decode cX2_difference 61 = .ok (.istore 5, 2) := by decide +kernel
theorem dX2_difference_63 : decode cX2_difference 63 = .ok (.iinc 6 1, 3) := by decide +kernel
theorem dX2_difference_66 : decode cX2_difference 66 = .ok (.goto (-41), 3) := by decide +kernel
theorem dX2_difference_69 : decode cX2_difference 69 = .ok (.iload 4, 2) := by decide +kernel
theorem dX2_difference_71 : decode cX2_difference 71 = .ok (.ifCond .ne 8, 3) := by decide +kernel
theorem dX2_difference_74 : decode cX2_difference 74 = .ok (.iload 5, 2) := by decide +kernel
theorem dX2_difference_76 : decode cX2_difference 76 = .ok (.goto 9, 3) := by decide +kernel
theorem dX2_difference_79 : decode cX2_difference 79 = .ok (.iload_n 2, 1) := by decide +kernel
theorem dX2_difference_80 : decode cX2_difference 80 = .ok (.iload 5, 2) := by decide +kernel
theorem dX2_difference_82 : decode cX2_difference 82 = .ok (.invokestatic 97, 3) := by decide +kernel
theorem dX2_difference_85 : decode cX2_difference 85 = .ok (.istore_n 2, 1) := by decide +kernel
theorem dX2_difference_86 : decode cX2_difference 86 = .ok (.iload 4, 2) := by decide +kernel
theorem dX2_difference_88 : decode cX2_difference 88 = .ok (.ifCond .ne 8, 3) := by decide +kernel
theorem dX2_difference_91 : decode cX2_difference 91 = .ok (.iload 5, 2) := by decide +kernel
theorem dX2_difference_93 : decode cX2_difference 93 = .ok (.goto 9, 3) := by decide +kernel
theorem dX2_difference_96 : decode cX2_difference 96 = .ok (.iload_n 3, 1) := by decide +kernel
theorem dX2_difference_97 : decode cX2_difference 97 = .ok (.iload 5, 2) := by decide +kernel
theorem dX2_difference_99 : decode cX2_difference 99 = .ok (.invokestatic 106, 3) := by decide +kernel
theorem dX2_difference_102 : decode cX2_difference 102 = .ok (.istore_n 3, 1) := by decide +kernel
theorem dX2_difference_103 : decode cX2_difference 103 = .ok (.iinc 4 1, 3) := by decide +kernel
theorem dX2_difference_106 : decode cX2_difference 106 = .ok (.goto (-99), 3) := by decide +kernel
theorem dX2_difference_109 : decode cX2_difference 109 = .ok (.iload_n 2, 1) := by decide +kernel
theorem dX2_difference_110 : decode cX2_difference 110 = .ok (.iload_n 3, 1) := by decide +kernel
theorem dX2_difference_111 : decode cX2_difference 111 = .ok (.isub, 1) := by decide +kernel
theorem dX2_difference_112 : decode cX2_difference 112 = .ok (.ireturn, 1) := by decide +kernel
def J_X2_difference_109 (v2 : Int32) (v3 : Int32) (D : aD) : Option (Int32 × aD) :=
  some (v2 - v3, D)
def J_X2_difference_85 (v1 : Int32) (v3 : Int32) (v4 : Int32) (v5 : Int32) (t0 : Int32) (D : aD) : Option ((Int32 × Int32 × Int32 × aD) ⊕ ((Int32 × Int32 × aD))) :=
  if v4 ≠ 0 then (aLet (if v5 < v3 then v5 else v3) (fun v3_1 => aLet (v4 + 1) (fun v4_2 => some (.inl (t0, v3_1, v4_2, D))))) else (aLet (v4 + 1) (fun v4_3 => some (.inl (t0, v5, v4_3, D))))
def J_X2_difference_69 (v1 : Int32) (v2 : Int32) (v3 : Int32) (v4 : Int32) (v5 : Int32) (D : aD) : Option ((Int32 × Int32 × Int32 × aD) ⊕ ((Int32 × Int32 × aD))) :=
  if v4 ≠ 0 then (J_X2_difference_85 v1 v3 v4 v5 (if v2 < v5 then v5 else v2) D) else (J_X2_difference_85 v1 v3 v4 v5 v5 D)
def B_X2_difference_25 (v1 : Int32) (v2 : Int32) (v3 : Int32) (v4 : Int32) (v5 : Int32) (v6 : Int32) (D : aD) : Option ((Int32 × Int32 × aD) ⊕ ((Int32 × aD))) :=
  if gI D 2 5 ≤ v6 then (some (.inr (v5, D))) else (aGd (aIn v6 5) (aBi (f_X2_placeOf v1 v6 (gI D 75 v6.toNatClampNeg) D) (fun y_5 D_6 => aGd (aIn (y_5 + v4) 625) (aLet (v5 + (gI D_6 78 (y_5 + v4).toNatClampNeg)) (fun v5_8 => aLet (v6 + 1) (fun v6_9 => some (.inl (v5_8, v6_9, D_6))))))))
def J_X2_difference_25 (v1 : Int32) (v2 : Int32) (v3 : Int32) (v4 : Int32) (v5 : Int32) (v6 : Int32) (D : aD) : Option ((Int32 × Int32 × Int32 × aD) ⊕ ((Int32 × Int32 × aD))) :=
  (aLp (fun s => B_X2_difference_25 v1 v2 v3 v4 s.1 s.2.1 s.2.2) (v5, v6, D)).bind (fun r => J_X2_difference_69 v1 v2 v3 v4 (r.1) r.2)
def B_X2_difference_7 (v1 : Int32) (v2 : Int32) (v3 : Int32) (v4 : Int32) (D : aD) : Option ((Int32 × Int32 × Int32 × aD) ⊕ ((Int32 × Int32 × aD))) :=
  if gI D 2 3 ≤ v4 then (some (.inr (v2, v3, D))) else (J_X2_difference_25 v1 v2 v3 v4 0 0 D)
def J_X2_difference_7 (v1 : Int32) (v2 : Int32) (v3 : Int32) (v4 : Int32) (D : aD) : Option (Int32 × aD) :=
  (aLp (fun s => B_X2_difference_7 v1 s.1 s.2.1 s.2.2.1 s.2.2.2) (v2, v3, v4, D)).bind (fun r => J_X2_difference_109 (r.1) (r.2.1) r.2.2)
def f_X2_difference (v1 : Int32) (D : aD) : Option (Int32 × aD) :=
  J_X2_difference_7 v1 0 0 0 D
set_option maxRecDepth 100000 in
set_option maxHeartbeats 800000 in
theorem c_X2_difference {G : aG} (hG : gOK G) {shp : List aSh} (hS : aShp shp) {fr : Option Nat} {v1 : Int32} {D : aD} {K : Int32 → aD → Prop} (h : Ok2 (f_X2_difference v1 D) K) : AC G (aRm 2 0 0) M_X2_difference [.ref 74, .int v1] fr shp D (aQi shp K) := by
  replace h := Ok2.ok h
  unfold f_X2_difference at h
  refine AC.of (al := [some (.ref 74), some (.int v1), none, none, none, none, none]) (r := 5) (by decide) (Nat.le_of_ble_eq_true rfl) rfl ?_
  have hJ_109 : ∀ (v2 : Int32) (v3 : Int32) (D : aD), Ok (J_X2_difference_109 v2 v3 D) (fun r => K r.1 r.2) → AW G (aRm 2 0 0) M_X2_difference fr 0 0 109 [none, none, some (.int v2), some (.int v3), none, none, none] [] shp D (aQi shp K) := by
    intro v2 v3 D h
    unfold J_X2_difference_109 at h
    refine aw_iload_n (n := 110) (i := 2) dX2_difference_109 rfl rfl rfl ?_
    refine aw_iload_n (n := 111) (i := 3) dX2_difference_110 rfl rfl rfl ?_
    refine aw_isub (n := 112) dX2_difference_111 rfl ?_
    exact aw_iret rfl (by decide) (by decide) dX2_difference_112 ⟨_, rfl, rfl, (Ok.dn h :)⟩
  have hJ_7 : ∀ (v1 : Int32) (v2 : Int32) (v3 : Int32) (v4 : Int32) (D : aD), Ok (J_X2_difference_7 v1 v2 v3 v4 D) (fun r => K r.1 r.2) → AW G (aRm 2 0 0) M_X2_difference fr 0 0 7 [some (.ref 74), some (.int v1), some (.int v2), some (.int v3), some (.int v4), none, none] [] shp D (aQi shp K) := by
    intro v1 v2 v3 v4 D h
    unfold J_X2_difference_7 at h
    refine Ok.lp (P := fun s => AW G (aRm 2 0 0) M_X2_difference fr 0 0 7 [some (.ref 74), some (.int v1), some (.int (s.1)), some (.int (s.2.1)), some (.int (s.2.2.1)), none, none] [] shp s.2.2.2 (aQi shp K)) (fun s Kb7 hL7 hR7 h => ?_) (v2, v3, v4, D) (Ok.bind h)
    obtain ⟨v2, v3, v4, D⟩ := s
    replace h : Ok (B_X2_difference_7 v1 v2 v3 v4 D) Kb7 := h
    unfold B_X2_difference_7 at h
    have hJ_85 : ∀ (v3 : Int32) (v4 : Int32) (v5 : Int32) (t0 : Int32) (D : aD), Ok (J_X2_difference_85 v1 v3 v4 v5 t0 D) Kb7 → AW G (aRm 2 0 0) M_X2_difference fr 0 0 85 [some (.ref 74), some (.int v1), none, some (.int v3), some (.int v4), some (.int v5), none] [.int t0] shp D (aQi shp K) := by
      intro v3 v4 v5 t0 D h
      unfold J_X2_difference_85 at h
      refine aw_istore_n (n := 86) (i := 2) (al' := [some (.ref 74), some (.int v1), some (.int t0), some (.int v3), some (.int v4), some (.int v5), none]) dX2_difference_85 rfl rfl rfl (by decide) rfl ?_
      refine aw_iload (n := 88) (i := 4) dX2_difference_86 rfl rfl ?_
      refine aw_if_ne (n := 91) (tgt := 96) dX2_difference_88 rfl (by decide) (fun c => ?_) (fun c => ?_)
      · replace h := Ok.ift h c
        refine aw_iload_n (n := 97) (i := 3) dX2_difference_96 rfl rfl rfl ?_
        refine aw_iload (n := 99) (i := 5) dX2_difference_97 rfl rfl ?_
        refine aw_min (M := M_X2_difference) (n := 102) lm_RX2_106 mm_min.1 mm_min.2.1 mm_min.2.2 (by decide) (Nat.le_of_ble_eq_true rfl) (by decide) (by decide) dX2_difference_99 rfl ?_
        obtain ⟨v3_1, e_v3_1, h⟩ := Ok.let_ h
        refine aw_istore_n (n := 103) (i := 3) (al' := [some (.ref 74), some (.int v1), some (.int t0), some (.int v3_1), some (.int v4), some (.int v5), none]) dX2_difference_102 rfl rfl e_v3_1 (by decide) rfl ?_
        obtain ⟨v4_2, e_v4_2, h⟩ := Ok.let_ h
        refine aw_iinc (n := 106) (al' := [some (.ref 74), some (.int v1), some (.int t0), some (.int v3_1), some (.int v4_2), some (.int v5), none]) dX2_difference_103 rfl rfl e_v4_2 (by decide) rfl ?_
        refine aw_goto (tgt := 7) dX2_difference_106 (by decide) ?_
        exact aw_le' (hL7 (t0, v3_1, v4_2, D) (Ok.dn h :)) ⟨rfl, ⟨rfl, ⟨rfl, ⟨rfl, ⟨rfl, trivial⟩⟩⟩⟩⟩
      · replace h := Ok.iffn h c
        refine aw_iload (n := 93) (i := 5) dX2_difference_91 rfl rfl ?_
        refine aw_goto (tgt := 102) dX2_difference_93 (by decide) ?_
        refine aw_istore_n (n := 103) (i := 3) (al' := [some (.ref 74), some (.int v1), some (.int t0), some (.int v5), some (.int v4), some (.int v5), none]) dX2_difference_102 rfl rfl rfl (by decide) rfl ?_
        obtain ⟨v4_3, e_v4_3, h⟩ := Ok.let_ h
        refine aw_iinc (n := 106) (al' := [some (.ref 74), some (.int v1), some (.int t0), some (.int v5), some (.int v4_3), some (.int v5), none]) dX2_difference_103 rfl rfl e_v4_3 (by decide) rfl ?_
        refine aw_goto (tgt := 7) dX2_difference_106 (by decide) ?_
        exact aw_le' (hL7 (t0, v5, v4_3, D) (Ok.dn h :)) ⟨rfl, ⟨rfl, ⟨rfl, ⟨rfl, ⟨rfl, trivial⟩⟩⟩⟩⟩
    have hJ_69 : ∀ (v2 : Int32) (v3 : Int32) (v4 : Int32) (v5 : Int32) (D : aD), Ok (J_X2_difference_69 v1 v2 v3 v4 v5 D) Kb7 → AW G (aRm 2 0 0) M_X2_difference fr 0 0 69 [some (.ref 74), some (.int v1), some (.int v2), some (.int v3), some (.int v4), some (.int v5), none] [] shp D (aQi shp K) := by
      intro v2 v3 v4 v5 D h
      unfold J_X2_difference_69 at h
      refine aw_iload (n := 71) (i := 4) dX2_difference_69 rfl rfl ?_
      refine aw_if_ne (n := 74) (tgt := 79) dX2_difference_71 rfl (by decide) (fun c => ?_) (fun c => ?_)
      · replace h := Ok.ift h c
        refine aw_iload_n (n := 80) (i := 2) dX2_difference_79 rfl rfl rfl ?_
        refine aw_iload (n := 82) (i := 5) dX2_difference_80 rfl rfl ?_
        refine aw_max (M := M_X2_difference) (n := 85) lm_RX2_97 mm_max.1 mm_max.2.1 mm_max.2.2 (by decide) (Nat.le_of_ble_eq_true rfl) (by decide) (by decide) dX2_difference_82 rfl ?_
        exact aw_le' (hJ_85 v3 v4 v5 (if v2 < v5 then v5 else v2) D h) ⟨rfl, ⟨rfl, ⟨rfl, ⟨rfl, ⟨rfl, trivial⟩⟩⟩⟩⟩
      · replace h := Ok.iffn h c
        refine aw_iload (n := 76) (i := 5) dX2_difference_74 rfl rfl ?_
        refine aw_goto (tgt := 85) dX2_difference_76 (by decide) ?_
        exact aw_le' (hJ_85 v3 v4 v5 v5 D h) ⟨rfl, ⟨rfl, ⟨rfl, ⟨rfl, ⟨rfl, trivial⟩⟩⟩⟩⟩
    have hJ_25 : ∀ (v2 : Int32) (v3 : Int32) (v4 : Int32) (v5 : Int32) (v6 : Int32) (D : aD), Ok (J_X2_difference_25 v1 v2 v3 v4 v5 v6 D) Kb7 → AW G (aRm 2 0 0) M_X2_difference fr 0 0 25 [some (.ref 74), some (.int v1), some (.int v2), some (.int v3), some (.int v4), some (.int v5), some (.int v6)] [] shp D (aQi shp K) := by
      intro v2 v3 v4 v5 v6 D h
      unfold J_X2_difference_25 at h
      refine Ok.lp (P := fun s => AW G (aRm 2 0 0) M_X2_difference fr 0 0 25 [some (.ref 74), some (.int v1), some (.int v2), some (.int v3), some (.int v4), some (.int (s.1)), some (.int (s.2.1))] [] shp s.2.2 (aQi shp K)) (fun s Kb25 hL25 hR25 h => ?_) (v5, v6, D) (Ok.bind h)
      obtain ⟨v5, v6, D⟩ := s
      replace h : Ok (B_X2_difference_25 v1 v2 v3 v4 v5 v6 D) Kb25 := h
      unfold B_X2_difference_25 at h
      refine aw_iload (n := 27) (i := 6) dX2_difference_25 rfl rfl ?_
      refine aw_aload_n (n := 28) (i := 0) dX2_difference_27 rfl rfl rfl ?_
      refine aw_getR (n := 31) (j := 0) (r := 2) hG.1 fl_RX2_24 (sF_74 hS) rfl dX2_difference_28 rfl ?_
      refine aw_getI (n := 34) (j := 5) hG.1 fl_RX2_39 (sF_2 hS) rfl dX2_difference_31 rfl ?_
      refine aw_icmp_ge (n := 37) (tgt := 69) dX2_difference_34 rfl (by decide) (fun c => ?_) (fun c => ?_)
      · replace h := Ok.ift h c
        exact aw_le' (hJ_69 v2 v3 v4 v5 D (hR25 (v5, D) (Ok.dn h :))) ⟨rfl, ⟨rfl, ⟨rfl, ⟨rfl, ⟨rfl, ⟨rfl, trivial⟩⟩⟩⟩⟩⟩
      · replace h := Ok.iff h c
        refine aw_iload (n := 39) (i := 5) dX2_difference_37 rfl rfl ?_
        refine aw_aload_n (n := 40) (i := 0) dX2_difference_39 rfl rfl rfl ?_
        refine aw_getR (n := 43) (j := 6) (r := 78) hG.1 fl_RX2_21 (sF_74 hS) rfl dX2_difference_40 rfl ?_
        refine aw_iload_n (n := 44) (i := 1) dX2_difference_43 rfl rfl rfl ?_
        refine aw_iload (n := 46) (i := 6) dX2_difference_44 rfl rfl ?_
        refine aw_aload_n (n := 47) (i := 0) dX2_difference_46 rfl rfl rfl ?_
        refine aw_getR (n := 50) (j := 3) (r := 75) hG.1 fl_RX2_9 (sF_74 hS) rfl dX2_difference_47 rfl ?_
        refine aw_iload (n := 52) (i := 6) dX2_difference_50 rfl rfl ?_
        obtain ⟨g_4, h⟩ := Ok.gd h
        refine aw_iaload (n := 53) hG.1 (sF_75 hS) (aIn_in g_4) dX2_difference_52 rfl ?_
        refine aw_cSi (M := M_X2_difference) (n := 56) (As := [.int v1, .int v6, .int (gI D 75 v6.toNatClampNeg)]) (rest := [.ref 78, .int v5]) lk_RX2_76 rfl rfl (c_X2_placeOf hG hS (h := Ok.bi h)) (by decide) (Nat.le_of_ble_eq_true rfl) (by decide) (by decide) dX2_difference_53 rfl (fun y_5 D_6 h => ?_)
        refine aw_iload (n := 58) (i := 4) dX2_difference_56 rfl rfl ?_
        refine aw_iadd (n := 59) dX2_difference_58 rfl ?_
        obtain ⟨g_7, h⟩ := Ok.gd h
        refine aw_iaload (n := 60) hG.1 (sF_78 hS) (aIn_in g_7) dX2_difference_59 rfl ?_
        refine aw_iadd (n := 61) dX2_difference_60 rfl ?_
        obtain ⟨v5_8, e_v5_8, h⟩ := Ok.let_ h
        refine aw_istore (n := 63) (i := 5) (al' := [some (.ref 74), some (.int v1), some (.int v2), some (.int v3), some (.int v4), some (.int v5_8), some (.int v6)]) dX2_difference_61 rfl e_v5_8 (by decide) rfl ?_
        obtain ⟨v6_9, e_v6_9, h⟩ := Ok.let_ h
        refine aw_iinc (n := 66) (al' := [some (.ref 74), some (.int v1), some (.int v2), some (.int v3), some (.int v4), some (.int v5_8), some (.int v6_9)]) dX2_difference_63 rfl rfl e_v6_9 (by decide) rfl ?_
        refine aw_goto (tgt := 25) dX2_difference_66 (by decide) ?_
        exact aw_le' (hL25 (v5_8, v6_9, D_6) (Ok.dn h :)) ⟨rfl, ⟨rfl, ⟨rfl, ⟨rfl, ⟨rfl, ⟨rfl, ⟨rfl, trivial⟩⟩⟩⟩⟩⟩⟩
    refine aw_iload (n := 9) (i := 4) dX2_difference_7 rfl rfl ?_
    refine aw_aload_n (n := 10) (i := 0) dX2_difference_9 rfl rfl rfl ?_
    refine aw_getR (n := 13) (j := 0) (r := 2) hG.1 fl_RX2_24 (sF_74 hS) rfl dX2_difference_10 rfl ?_
    refine aw_getI (n := 16) (j := 3) hG.1 fl_RX2_103 (sF_2 hS) rfl dX2_difference_13 rfl ?_
    refine aw_icmp_ge (n := 19) (tgt := 109) dX2_difference_16 rfl (by decide) (fun c => ?_) (fun c => ?_)
    · replace h := Ok.ift h c
      exact aw_le' (hJ_109 v2 v3 D (hR7 (v2, v3, D) (Ok.dn h :))) ⟨rfl, ⟨rfl, trivial⟩⟩
    · replace h := Ok.iff h c
      refine aw_iconst (n := 20) (v := 0) dX2_difference_19 rfl (by decide) ?_
      refine aw_istore (n := 22) (i := 5) (al' := [some (.ref 74), some (.int v1), some (.int v2), some (.int v3), some (.int v4), some (.int 0), none]) dX2_difference_20 rfl rfl (by decide) rfl ?_
      refine aw_iconst (n := 23) (v := 0) dX2_difference_22 rfl (by decide) ?_
      refine aw_istore (n := 25) (i := 6) (al' := [some (.ref 74), some (.int v1), some (.int v2), some (.int v3), some (.int v4), some (.int 0), some (.int 0)]) dX2_difference_23 rfl rfl (by decide) rfl ?_
      exact aw_le' (hJ_25 v2 v3 v4 0 0 D h) ⟨rfl, ⟨rfl, ⟨rfl, ⟨rfl, ⟨rfl, ⟨rfl, ⟨rfl, trivial⟩⟩⟩⟩⟩⟩⟩
  refine aw_iconst (n := 1) (v := 0) dX2_difference_0 rfl (by decide) ?_
  refine aw_istore_n (n := 2) (i := 2) (al' := [some (.ref 74), some (.int v1), some (.int 0), none, none, none, none]) dX2_difference_1 rfl rfl rfl (by decide) rfl ?_
  refine aw_iconst (n := 3) (v := 0) dX2_difference_2 rfl (by decide) ?_
  refine aw_istore_n (n := 4) (i := 3) (al' := [some (.ref 74), some (.int v1), some (.int 0), some (.int 0), none, none, none]) dX2_difference_3 rfl rfl rfl (by decide) rfl ?_
  refine aw_iconst (n := 5) (v := 0) dX2_difference_4 rfl (by decide) ?_
  refine aw_istore (n := 7) (i := 4) (al' := [some (.ref 74), some (.int v1), some (.int 0), some (.int 0), some (.int 0), none, none]) dX2_difference_5 rfl rfl (by decide) rfl ?_
  exact aw_le' (hJ_7 v1 0 0 0 D h) ⟨rfl, ⟨rfl, ⟨rfl, ⟨rfl, ⟨rfl, trivial⟩⟩⟩⟩⟩
theorem dX2_greatestDifference_0 : decode cX2_greatestDifference 0 = .ok (.iconst 0, 1) := by decide +kernel
theorem dX2_greatestDifference_1 : decode cX2_greatestDifference 1 = .ok (.istore_n 1, 1) := by decide +kernel
theorem dX2_greatestDifference_2 : decode cX2_greatestDifference 2 = .ok (.iconst 0, 1) := by decide +kernel
theorem dX2_greatestDifference_3 : decode cX2_greatestDifference 3 = .ok (.istore_n 2, 1) := by decide +kernel
theorem dX2_greatestDifference_4 : decode cX2_greatestDifference 4 = .ok (.iload_n 2, 1) := by decide +kernel
theorem dX2_greatestDifference_5 : decode cX2_greatestDifference 5 = .ok (.iconst 5, 1) := by decide +kernel
theorem dX2_greatestDifference_6 : decode cX2_greatestDifference 6 = .ok (.if_icmp .ge 31, 3) := by decide +kernel
theorem dX2_greatestDifference_9 : decode cX2_greatestDifference 9 = .ok (.aload_n 0, 1) := by decide +kernel
theorem dX2_greatestDifference_10 : decode cX2_greatestDifference 10 = .ok (.getfield 24, 3) := by decide +kernel
theorem dX2_greatestDifference_13 : decode cX2_greatestDifference 13 = .ok (.getfield 59, 3) := by decide +kernel
theorem dX2_greatestDifference_16 : decode cX2_greatestDifference 16 = .ok (.iload_n 2, 1) := by decide +kernel
theorem dX2_greatestDifference_17 : decode cX2_greatestDifference 17 = .ok (.iaload, 1) := by decide +kernel
theorem dX2_greatestDifference_18 : decode cX2_greatestDifference 18 = .ok (.ifCond .le 13, 3) := by decide +kernel
theorem dX2_greatestDifference_21 : decode cX2_greatestDifference 21 = .ok (.iload_n 1, 1) := by decide +kernel
theorem dX2_greatestDifference_22 : decode cX2_greatestDifference 22 = .ok (.aload_n 0, 1) := by decide +kernel
theorem dX2_greatestDifference_23 : decode cX2_greatestDifference 23 = .ok (.iload_n 2, 1) := by decide +kernel
theorem dX2_greatestDifference_24 : decode cX2_greatestDifference 24 = .ok (.invokevirtual 93, 3) := by decide +kernel
theorem dX2_greatestDifference_27 : decode cX2_greatestDifference 27 = .ok (.invokestatic 97, 3) := by decide +kernel
theorem dX2_greatestDifference_30 : decode cX2_greatestDifference 30 = .ok (.istore_n 1, 1) := by decide +kernel
theorem dX2_greatestDifference_31 : decode cX2_greatestDifference 31 = .ok (.iinc 2 1, 3) := by decide +kernel
theorem dX2_greatestDifference_34 : decode cX2_greatestDifference 34 = .ok (.goto (-30), 3) := by decide +kernel
theorem dX2_greatestDifference_37 : decode cX2_greatestDifference 37 = .ok (.iload_n 1, 1) := by decide +kernel
theorem dX2_greatestDifference_38 : decode cX2_greatestDifference 38 = .ok (.ireturn, 1) := by decide +kernel
def J_X2_greatestDifference_37 (v1 : Int32) (D : aD) : Option (Int32 × aD) :=
  some (v1, D)
def B_X2_greatestDifference_4 (v1 : Int32) (v2 : Int32) (D : aD) : Option ((Int32 × Int32 × aD) ⊕ ((Int32 × aD))) :=
  if 5 ≤ v2 then (some (.inr (v1, D))) else (aGd (aIn v2 5) (if gI D 14 v2.toNatClampNeg ≤ 0 then (aLet (v2 + 1) (fun v2_2 => some (.inl (v1, v2_2, D)))) else (aBi (f_X2_difference v2 D) (fun y_3 D_4 => aLet (if v1 < y_3 then y_3 else v1) (fun v1_5 => aLet (v2 + 1) (fun v2_6 => some (.inl (v1_5, v2_6, D_4))))))))
def J_X2_greatestDifference_4 (v1 : Int32) (v2 : Int32) (D : aD) : Option (Int32 × aD) :=
  (aLp (fun s => B_X2_greatestDifference_4 s.1 s.2.1 s.2.2) (v1, v2, D)).bind (fun r => J_X2_greatestDifference_37 (r.1) r.2)
def f_X2_greatestDifference (D : aD) : Option (Int32 × aD) :=
  J_X2_greatestDifference_4 0 0 D
set_option maxRecDepth 100000 in
set_option maxHeartbeats 800000 in
theorem c_X2_greatestDifference {G : aG} (hG : gOK G) {shp : List aSh} (hS : aShp shp) {fr : Option Nat} {D : aD} {K : Int32 → aD → Prop} (h : Ok2 (f_X2_greatestDifference D) K) : AC G (aRm 3 0 0) M_X2_greatestDifference [.ref 74] fr shp D (aQi shp K) := by
  replace h := Ok2.ok h
  unfold f_X2_greatestDifference at h
  refine AC.of (al := [some (.ref 74), none, none]) (r := 2) (by decide) (Nat.le_of_ble_eq_true rfl) rfl ?_
  have hJ_37 : ∀ (v1 : Int32) (D : aD), Ok (J_X2_greatestDifference_37 v1 D) (fun r => K r.1 r.2) → AW G (aRm 3 0 0) M_X2_greatestDifference fr 0 0 37 [none, some (.int v1), none] [] shp D (aQi shp K) := by
    intro v1 D h
    unfold J_X2_greatestDifference_37 at h
    refine aw_iload_n (n := 38) (i := 1) dX2_greatestDifference_37 rfl rfl rfl ?_
    exact aw_iret rfl (by decide) (by decide) dX2_greatestDifference_38 ⟨_, rfl, rfl, (Ok.dn h :)⟩
  have hJ_4 : ∀ (v1 : Int32) (v2 : Int32) (D : aD), Ok (J_X2_greatestDifference_4 v1 v2 D) (fun r => K r.1 r.2) → AW G (aRm 3 0 0) M_X2_greatestDifference fr 0 0 4 [some (.ref 74), some (.int v1), some (.int v2)] [] shp D (aQi shp K) := by
    intro v1 v2 D h
    unfold J_X2_greatestDifference_4 at h
    refine Ok.lp (P := fun s => AW G (aRm 3 0 0) M_X2_greatestDifference fr 0 0 4 [some (.ref 74), some (.int (s.1)), some (.int (s.2.1))] [] shp s.2.2 (aQi shp K)) (fun s Kb4 hL4 hR4 h => ?_) (v1, v2, D) (Ok.bind h)
    obtain ⟨v1, v2, D⟩ := s
    replace h : Ok (B_X2_greatestDifference_4 v1 v2 D) Kb4 := h
    unfold B_X2_greatestDifference_4 at h
    refine aw_iload_n (n := 5) (i := 2) dX2_greatestDifference_4 rfl rfl rfl ?_
    refine aw_iconst (n := 6) (v := 5) dX2_greatestDifference_5 rfl (by decide) ?_
    refine aw_icmp_ge (n := 9) (tgt := 37) dX2_greatestDifference_6 rfl (by decide) (fun c => ?_) (fun c => ?_)
    · replace h := Ok.ift h c
      exact aw_le' (hJ_37 v1 D (hR4 (v1, D) (Ok.dn h :))) ⟨rfl, trivial⟩
    · replace h := Ok.iff h c
      refine aw_aload_n (n := 10) (i := 0) dX2_greatestDifference_9 rfl rfl rfl ?_
      refine aw_getR (n := 13) (j := 0) (r := 2) hG.1 fl_RX2_24 (sF_74 hS) rfl dX2_greatestDifference_10 rfl ?_
      refine aw_getR (n := 16) (j := 16) (r := 14) hG.1 fl_RX2_59 (sF_2 hS) rfl dX2_greatestDifference_13 rfl ?_
      refine aw_iload_n (n := 17) (i := 2) dX2_greatestDifference_16 rfl rfl rfl ?_
      obtain ⟨g_1, h⟩ := Ok.gd h
      refine aw_iaload (n := 18) hG.1 (sF_14 hS) (aIn_in g_1) dX2_greatestDifference_17 rfl ?_
      refine aw_if_le (n := 21) (tgt := 31) dX2_greatestDifference_18 rfl (by decide) (fun c => ?_) (fun c => ?_)
      · replace h := Ok.ift h c
        obtain ⟨v2_2, e_v2_2, h⟩ := Ok.let_ h
        refine aw_iinc (n := 34) (al' := [some (.ref 74), some (.int v1), some (.int v2_2)]) dX2_greatestDifference_31 rfl rfl e_v2_2 (by decide) rfl ?_
        refine aw_goto (tgt := 4) dX2_greatestDifference_34 (by decide) ?_
        exact aw_le' (hL4 (v1, v2_2, D) (Ok.dn h :)) ⟨rfl, ⟨rfl, ⟨rfl, trivial⟩⟩⟩
      · replace h := Ok.iff h c
        refine aw_iload_n (n := 22) (i := 1) dX2_greatestDifference_21 rfl rfl rfl ?_
        refine aw_aload_n (n := 23) (i := 0) dX2_greatestDifference_22 rfl rfl rfl ?_
        refine aw_iload_n (n := 24) (i := 2) dX2_greatestDifference_23 rfl rfl rfl ?_
        refine aw_cVi (M := M_X2_greatestDifference) (n := 27) (As := [.int v2]) (rest := [.int v1]) hG.1 lk_RX2_93 rfl rfl (sF_74 hS) (c_X2_difference hG hS (h := Ok.bi h)) (by decide) (Nat.le_of_ble_eq_true rfl) (by decide) (by decide) dX2_greatestDifference_24 rfl (fun y_3 D_4 h => ?_)
        refine aw_max (M := M_X2_greatestDifference) (n := 30) lm_RX2_97 mm_max.1 mm_max.2.1 mm_max.2.2 (by decide) (Nat.le_of_ble_eq_true rfl) (by decide) (by decide) dX2_greatestDifference_27 rfl ?_
        obtain ⟨v1_5, e_v1_5, h⟩ := Ok.let_ h
        refine aw_istore_n (n := 31) (i := 1) (al' := [some (.ref 74), some (.int v1_5), some (.int v2)]) dX2_greatestDifference_30 rfl rfl e_v1_5 (by decide) rfl ?_
        obtain ⟨v2_6, e_v2_6, h⟩ := Ok.let_ h
        refine aw_iinc (n := 34) (al' := [some (.ref 74), some (.int v1_5), some (.int v2_6)]) dX2_greatestDifference_31 rfl rfl e_v2_6 (by decide) rfl ?_
        refine aw_goto (tgt := 4) dX2_greatestDifference_34 (by decide) ?_
        exact aw_le' (hL4 (v1_5, v2_6, D_4) (Ok.dn h :)) ⟨rfl, ⟨rfl, ⟨rfl, trivial⟩⟩⟩
  refine aw_iconst (n := 1) (v := 0) dX2_greatestDifference_0 rfl (by decide) ?_
  refine aw_istore_n (n := 2) (i := 1) (al' := [some (.ref 74), some (.int 0), none]) dX2_greatestDifference_1 rfl rfl rfl (by decide) rfl ?_
  refine aw_iconst (n := 3) (v := 0) dX2_greatestDifference_2 rfl (by decide) ?_
  refine aw_istore_n (n := 4) (i := 2) (al' := [some (.ref 74), some (.int 0), some (.int 0)]) dX2_greatestDifference_3 rfl rfl rfl (by decide) rfl ?_
  exact aw_le' (hJ_4 0 0 D h) ⟨rfl, ⟨rfl, ⟨rfl, trivial⟩⟩⟩
theorem dX2_exchange_0 : decode cX2_exchange 0 = .ok (.aload_n 0, 1) := by decide +kernel
theorem dX2_exchange_1 : decode cX2_exchange 1 = .ok (.getfield 9, 3) := by decide +kernel
theorem dX2_exchange_4 : decode cX2_exchange 4 = .ok (.iload_n 1, 1) := by decide +kernel
theorem dX2_exchange_5 : decode cX2_exchange 5 = .ok (.iaload, 1) := by decide +kernel
theorem dX2_exchange_6 : decode cX2_exchange 6 = .ok (.istore_n 3, 1) := by decide +kernel
theorem dX2_exchange_7 : decode cX2_exchange 7 = .ok (.aload_n 0, 1) := by decide +kernel
theorem dX2_exchange_8 : decode cX2_exchange 8 = .ok (.getfield 9, 3) := by decide +kernel
theorem dX2_exchange_11 : decode cX2_exchange 11 = .ok (.iload_n 1, 1) := by decide +kernel
theorem dX2_exchange_12 : decode cX2_exchange 12 = .ok (.aload_n 0, 1) := by decide +kernel
theorem dX2_exchange_13 : decode cX2_exchange 13 = .ok (.getfield 9, 3) := by decide +kernel
theorem dX2_exchange_16 : decode cX2_exchange 16 = .ok (.iload_n 2, 1) := by decide +kernel
theorem dX2_exchange_17 : decode cX2_exchange 17 = .ok (.iaload, 1) := by decide +kernel
theorem dX2_exchange_18 : decode cX2_exchange 18 = .ok (.iastore, 1) := by decide +kernel
theorem dX2_exchange_19 : decode cX2_exchange 19 = .ok (.aload_n 0, 1) := by decide +kernel
theorem dX2_exchange_20 : decode cX2_exchange 20 = .ok (.getfield 9, 3) := by decide +kernel
theorem dX2_exchange_23 : decode cX2_exchange 23 = .ok (.iload_n 2, 1) := by decide +kernel
theorem dX2_exchange_24 : decode cX2_exchange 24 = .ok (.iload_n 3, 1) := by decide +kernel
theorem dX2_exchange_25 : decode cX2_exchange 25 = .ok (.iastore, 1) := by decide +kernel
theorem dX2_exchange_26 : decode cX2_exchange 26 = .ok (.return_, 1) := by decide +kernel
def f_X2_exchange (v1 : Int32) (v2 : Int32) (D : aD) : Option (aD) :=
  aGd (aIn v1 5) (aLet (gI D 75 v1.toNatClampNeg) (fun v3_2 => aGd (aIn v2 5) (aGd (aIn v1 5) (aLet (pI D 75 v1.toNatClampNeg (gI D 75 v2.toNatClampNeg)) (fun D_5 => aGd (aIn v2 5) (aLet (pI D_5 75 v2.toNatClampNeg v3_2) (fun D_7 => some D_7)))))))
set_option maxRecDepth 100000 in
set_option maxHeartbeats 800000 in
theorem c_X2_exchange {G : aG} (hG : gOK G) {shp : List aSh} (hS : aShp shp) {fr : Option Nat} {v1 : Int32} {v2 : Int32} {D : aD} {K : aD → Prop} (h : Ok (f_X2_exchange v1 v2 D) K) : AC G (aRm 1 0 0) M_X2_exchange [.ref 74, .int v1, .int v2] fr shp D (aQv shp K) := by
  unfold f_X2_exchange at h
  refine AC.of (al := [some (.ref 74), some (.int v1), some (.int v2), none]) (r := 1) (by decide) (Nat.le_of_ble_eq_true rfl) rfl ?_
  refine aw_aload_n (n := 1) (i := 0) dX2_exchange_0 rfl rfl rfl ?_
  refine aw_getR (n := 4) (j := 3) (r := 75) hG.1 fl_RX2_9 (sF_74 hS) rfl dX2_exchange_1 rfl ?_
  refine aw_iload_n (n := 5) (i := 1) dX2_exchange_4 rfl rfl rfl ?_
  obtain ⟨g_1, h⟩ := Ok.gd h
  refine aw_iaload (n := 6) hG.1 (sF_75 hS) (aIn_in g_1) dX2_exchange_5 rfl ?_
  obtain ⟨v3_2, e_v3_2, h⟩ := Ok.let_ h
  refine aw_istore_n (n := 7) (i := 3) (al' := [some (.ref 74), some (.int v1), some (.int v2), some (.int v3_2)]) dX2_exchange_6 rfl rfl e_v3_2 (by decide) rfl ?_
  refine aw_aload_n (n := 8) (i := 0) dX2_exchange_7 rfl rfl rfl ?_
  refine aw_getR (n := 11) (j := 3) (r := 75) hG.1 fl_RX2_9 (sF_74 hS) rfl dX2_exchange_8 rfl ?_
  refine aw_iload_n (n := 12) (i := 1) dX2_exchange_11 rfl rfl rfl ?_
  refine aw_aload_n (n := 13) (i := 0) dX2_exchange_12 rfl rfl rfl ?_
  refine aw_getR (n := 16) (j := 3) (r := 75) hG.1 fl_RX2_9 (sF_74 hS) rfl dX2_exchange_13 rfl ?_
  refine aw_iload_n (n := 17) (i := 2) dX2_exchange_16 rfl rfl rfl ?_
  obtain ⟨g_3, h⟩ := Ok.gd h
  refine aw_iaload (n := 18) hG.1 (sF_75 hS) (aIn_in g_3) dX2_exchange_17 rfl ?_
  obtain ⟨g_4, h⟩ := Ok.gd h
  obtain ⟨D_5, e_D_5, h⟩ := Ok.let_ h
  refine aw_iastore (n := 19) hG.1 (sF_75 hS) (aIn_in g_4) e_D_5 dX2_exchange_18 rfl ?_
  refine aw_aload_n (n := 20) (i := 0) dX2_exchange_19 rfl rfl rfl ?_
  refine aw_getR (n := 23) (j := 3) (r := 75) hG.1 fl_RX2_9 (sF_74 hS) rfl dX2_exchange_20 rfl ?_
  refine aw_iload_n (n := 24) (i := 2) dX2_exchange_23 rfl rfl rfl ?_
  refine aw_iload_n (n := 25) (i := 3) dX2_exchange_24 rfl rfl rfl ?_
  obtain ⟨g_6, h⟩ := Ok.gd h
  obtain ⟨D_7, e_D_7, h⟩ := Ok.let_ h
  refine aw_iastore (n := 26) hG.1 (sF_75 hS) (aIn_in g_6) e_D_7 dX2_exchange_25 rfl ?_
  exact aw_vret rfl (by decide) (by decide) dX2_exchange_26 ⟨rfl, rfl, (Ok.dn h :)⟩
theorem dX2_stepRow_0 : decode cX2_stepRow 0 = .ok (.aload_n 0, 1) := by decide +kernel
theorem dX2_stepRow_1 : decode cX2_stepRow 1 = .ok (.getfield 24, 3) := by decide +kernel
theorem dX2_stepRow_4 : decode cX2_stepRow 4 = .ok (.getfield 39, 3) := by decide +kernel
theorem dX2_stepRow_7 : decode cX2_stepRow 7 = .ok (.iconst 2, 1) := by decide +kernel
theorem dX2_stepRow_8 : decode cX2_stepRow 8 = .ok (.isub, 1) := by decide +kernel
theorem dX2_stepRow_9 : decode cX2_stepRow 9 = .ok (.istore_n 1, 1) := by decide +kernel
theorem dX2_stepRow_10 : decode cX2_stepRow 10 = .ok (.iload_n 1, 1) := by decide +kernel
theorem dX2_stepRow_11 : decode cX2_stepRow 11 = .ok (.ifCond .lt 26, 3) := by decide +kernel
theorem dX2_stepRow_14 : decode cX2_stepRow 14 = .ok (.aload_n 0, 1) := by decide +kernel
theorem dX2_stepRow_15 : decode cX2_stepRow 15 = .ok (.getfield 9, 3) := by decide +kernel
theorem dX2_stepRow_18 : decode cX2_stepRow 18 = .ok (.iload_n 1, 1) := by decide +kernel
theorem dX2_stepRow_19 : decode cX2_stepRow 19 = .ok (.iaload, 1) := by decide +kernel
theorem dX2_stepRow_20 : decode cX2_stepRow 20 = .ok (.aload_n 0, 1) := by decide +kernel
theorem dX2_stepRow_21 : decode cX2_stepRow 21 = .ok (.getfield 9, 3) := by decide +kernel
theorem dX2_stepRow_24 : decode cX2_stepRow 24 = .ok (.iload_n 1, 1) := by decide +kernel
theorem dX2_stepRow_25 : decode cX2_stepRow 25 = .ok (.iconst 1, 1) := by decide +kernel
theorem dX2_stepRow_26 : decode cX2_stepRow 26 = .ok (.iadd, 1) := by decide +kernel
theorem dX2_stepRow_27 : decode cX2_stepRow 27 = .ok (.iaload, 1) := by decide +kernel
theorem dX2_stepRow_28 : decode cX2_stepRow 28 = .ok (.if_icmp .le 9, 3) := by decide +kernel
theorem dX2_stepRow_31 : decode cX2_stepRow 31 = .ok (.iinc 1 (-1), 3) := by decide +kernel
theorem dX2_stepRow_34 : decode cX2_stepRow 34 = .ok (.goto (-24), 3) := by decide +kernel
theorem dX2_stepRow_37 : decode cX2_stepRow 37 = .ok (.iload_n 1, 1) := by decide +kernel
theorem dX2_stepRow_38 : decode cX2_stepRow 38 = .ok (.ifCond .ge 5, 3) := by decide +kernel
theorem dX2_stepRow_41 : decode cX2_stepRow 41 = .ok (.iconst 0, 1) := by decide +kernel
theorem dX2_stepRow_42 : decode cX2_stepRow 42 = .ok (.ireturn, 1) := by decide +kernel
theorem dX2_stepRow_43 : decode cX2_stepRow 43 = .ok (.aload_n 0, 1) := by decide +kernel
theorem dX2_stepRow_44 : decode cX2_stepRow 44 = .ok (.getfield 24, 3) := by decide +kernel
theorem dX2_stepRow_47 : decode cX2_stepRow 47 = .ok (.getfield 39, 3) := by decide +kernel
theorem dX2_stepRow_50 : decode cX2_stepRow 50 = .ok (.iconst 1, 1) := by decide +kernel
theorem dX2_stepRow_51 : decode cX2_stepRow 51 = .ok (.isub, 1) := by decide +kernel
theorem dX2_stepRow_52 : decode cX2_stepRow 52 = .ok (.istore_n 2, 1) := by decide +kernel
theorem dX2_stepRow_53 : decode cX2_stepRow 53 = .ok (.iload_n 2, 1) := by decide +kernel
theorem dX2_stepRow_54 : decode cX2_stepRow 54 = .ok (.iload_n 1, 1) := by decide +kernel
theorem dX2_stepRow_55 : decode cX2_stepRow 55 = .ok (.if_icmp .le 24, 3) := by decide +kernel
theorem dX2_stepRow_58 : decode cX2_stepRow 58 = .ok (.aload_n 0, 1) := by decide +kernel
theorem dX2_stepRow_59 : decode cX2_stepRow 59 = .ok (.getfield 9, 3) := by decide +kernel
theorem dX2_stepRow_62 : decode cX2_stepRow 62 = .ok (.iload_n 2, 1) := by decide +kernel
theorem dX2_stepRow_63 : decode cX2_stepRow 63 = .ok (.iaload, 1) := by decide +kernel
theorem dX2_stepRow_64 : decode cX2_stepRow 64 = .ok (.aload_n 0, 1) := by decide +kernel
theorem dX2_stepRow_65 : decode cX2_stepRow 65 = .ok (.getfield 9, 3) := by decide +kernel
theorem dX2_stepRow_68 : decode cX2_stepRow 68 = .ok (.iload_n 1, 1) := by decide +kernel
theorem dX2_stepRow_69 : decode cX2_stepRow 69 = .ok (.iaload, 1) := by decide +kernel
theorem dX2_stepRow_70 : decode cX2_stepRow 70 = .ok (.if_icmp .ge 9, 3) := by decide +kernel
theorem dX2_stepRow_73 : decode cX2_stepRow 73 = .ok (.iinc 2 (-1), 3) := by decide +kernel
theorem dX2_stepRow_76 : decode cX2_stepRow 76 = .ok (.goto (-23), 3) := by decide +kernel
theorem dX2_stepRow_79 : decode cX2_stepRow 79 = .ok (.aload_n 0, 1) := by decide +kernel
theorem dX2_stepRow_80 : decode cX2_stepRow 80 = .ok (.iload_n 1, 1) := by decide +kernel
theorem dX2_stepRow_81 : decode cX2_stepRow 81 = .ok (.iload_n 2, 1) := by decide +kernel
theorem dX2_stepRow_82 : decode cX2_stepRow 82 = .ok (.invokevirtual 109, 3) := by decide +kernel
theorem dX2_stepRow_85 : decode cX2_stepRow 85 = .ok (.iload_n 1, 1) := by decide +kernel
theorem dX2_stepRow_86 : decode cX2_stepRow 86 = .ok (.iconst 1, 1) := by decide +kernel
theorem dX2_stepRow_87 : decode cX2_stepRow 87 = .ok (.iadd, 1) := by decide +kernel
theorem dX2_stepRow_88 : decode cX2_stepRow 88 = .ok (.istore_n 3, 1) := by decide +kernel
theorem dX2_stepRow_89 : decode cX2_stepRow 89 = .ok (.aload_n 0, 1) := by decide +kernel
theorem dX2_stepRow_90 : decode cX2_stepRow 90 = .ok (.getfield 24, 3) := by decide +kernel
theorem dX2_stepRow_93 : decode cX2_stepRow 93 = .ok (.getfield 39, 3) := by decide +kernel
theorem dX2_stepRow_96 : decode cX2_stepRow 96 = .ok (.iconst 1, 1) := by decide +kernel
theorem dX2_stepRow_97 : decode cX2_stepRow 97 = .ok (.isub, 1) := by decide +kernel
theorem dX2_stepRow_98 : decode cX2_stepRow 98 = .ok (.istore 4, 2) := by decide +kernel
theorem dX2_stepRow_100 : decode cX2_stepRow 100 = .ok (.iload_n 3, 1) := by decide +kernel
theorem dX2_stepRow_101 : decode cX2_stepRow 101 = .ok (.iload 4, 2) := by decide +kernel
theorem dX2_stepRow_103 : decode cX2_stepRow 103 = .ok (.if_icmp .ge 19, 3) := by decide +kernel
theorem dX2_stepRow_106 : decode cX2_stepRow 106 = .ok (.aload_n 0, 1) := by decide +kernel
theorem dX2_stepRow_107 : decode cX2_stepRow 107 = .ok (.iload_n 3, 1) := by decide +kernel
theorem dX2_stepRow_108 : decode cX2_stepRow 108 = .ok (.iload 4, 2) := by decide +kernel
theorem dX2_stepRow_110 : decode cX2_stepRow 110 = .ok (.invokevirtual 109, 3) := by decide +kernel
theorem dX2_stepRow_113 : decode cX2_stepRow 113 = .ok (.iinc 3 1, 3) := by decide +kernel
theorem dX2_stepRow_116 : decode cX2_stepRow 116 = .ok (.iinc 4 (-1), 3) := by decide +kernel
theorem dX2_stepRow_119 : decode cX2_stepRow 119 = .ok (.goto (-19), 3) := by decide +kernel
theorem dX2_stepRow_122 : decode cX2_stepRow 122 = .ok (.iconst 1, 1) := by decide +kernel
theorem dX2_stepRow_123 : decode cX2_stepRow 123 = .ok (.ireturn, 1) := by decide +kernel
def J_X2_stepRow_122 (D : aD) : Option (Int32 × aD) :=
  some (1, D)
def B_X2_stepRow_100 (v3 : Int32) (v4 : Int32) (D : aD) : Option ((Int32 × Int32 × aD) ⊕ ((aD))) :=
  if v4 ≤ v3 then (some (.inr D)) else ((f_X2_exchange v3 v4 D).bind (fun D_6 => aLet (v3 + 1) (fun v3_7 => aLet (v4 + (-1)) (fun v4_8 => some (.inl (v3_7, v4_8, D_6))))))
def J_X2_stepRow_100 (v3 : Int32) (v4 : Int32) (D : aD) : Option (Int32 × aD) :=
  (aLp (fun s => B_X2_stepRow_100 s.1 s.2.1 s.2.2) (v3, v4, D)).bind (fun r => J_X2_stepRow_122 r)
def J_X2_stepRow_79 (v1 : Int32) (v2 : Int32) (D : aD) : Option (Int32 × aD) :=
  (f_X2_exchange v1 v2 D).bind (fun D_3 => aLet (v1 + 1) (fun v3_4 => aLet ((gI D_3 2 5) - 1) (fun v4_5 => J_X2_stepRow_100 v3_4 v4_5 D_3)))
def B_X2_stepRow_53 (v1 : Int32) (v2 : Int32) (D : aD) : Option ((Int32 × aD) ⊕ ((Int32 × aD))) :=
  if v2 ≤ v1 then (some (.inr (v2, D))) else (aGd (aIn v2 5) (aGd (aIn v1 5) (if gI D 75 v1.toNatClampNeg ≤ gI D 75 v2.toNatClampNeg then (some (.inr (v2, D))) else (aLet (v2 + (-1)) (fun v2_11 => some (.inl (v2_11, D)))))))
def J_X2_stepRow_53 (v1 : Int32) (v2 : Int32) (D : aD) : Option (Int32 × aD) :=
  (aLp (fun s => B_X2_stepRow_53 v1 s.1 s.2) (v2, D)).bind (fun r => J_X2_stepRow_79 v1 (r.1) r.2)
def J_X2_stepRow_37 (v1 : Int32) (D : aD) : Option (Int32 × aD) :=
  if 0 ≤ v1 then (aLet ((gI D 2 5) - 1) (fun v2_2 => J_X2_stepRow_53 v1 v2_2 D)) else (some (0, D))
def B_X2_stepRow_10 (v1 : Int32) (D : aD) : Option ((Int32 × aD) ⊕ ((Int32 × aD))) :=
  if v1 < 0 then (some (.inr (v1, D))) else (aGd (aIn v1 5) (aGd (aIn (v1 + 1) 5) (if gI D 75 v1.toNatClampNeg ≤ gI D 75 (v1 + 1).toNatClampNeg then (some (.inr (v1, D))) else (aLet (v1 + (-1)) (fun v1_14 => some (.inl (v1_14, D)))))))
def J_X2_stepRow_10 (v1 : Int32) (D : aD) : Option (Int32 × aD) :=
  (aLp (fun s => B_X2_stepRow_10 s.1 s.2) (v1, D)).bind (fun r => J_X2_stepRow_37 (r.1) r.2)
def f_X2_stepRow (D : aD) : Option (Int32 × aD) :=
  aLet ((gI D 2 5) - 2) (fun v1_1 => J_X2_stepRow_10 v1_1 D)
set_option maxRecDepth 100000 in
set_option maxHeartbeats 800000 in
theorem c_X2_stepRow {G : aG} (hG : gOK G) {shp : List aSh} (hS : aShp shp) {fr : Option Nat} {D : aD} {K : Int32 → aD → Prop} (h : Ok2 (f_X2_stepRow D) K) : AC G (aRm 2 0 0) M_X2_stepRow [.ref 74] fr shp D (aQi shp K) := by
  replace h := Ok2.ok h
  unfold f_X2_stepRow at h
  refine AC.of (al := [some (.ref 74), none, none, none, none]) (r := 4) (by decide) (Nat.le_of_ble_eq_true rfl) rfl ?_
  have hJ_122 : ∀ (D : aD), Ok (J_X2_stepRow_122 D) (fun r => K r.1 r.2) → AW G (aRm 2 0 0) M_X2_stepRow fr 0 0 122 [none, none, none, none, none] [] shp D (aQi shp K) := by
    intro D h
    unfold J_X2_stepRow_122 at h
    refine aw_iconst (n := 123) (v := 1) dX2_stepRow_122 rfl (by decide) ?_
    exact aw_zret rfl (by decide) (by decide) (by decide) dX2_stepRow_123 ⟨_, rfl, rfl, (Ok.dn h :)⟩
  have hJ_100 : ∀ (v3 : Int32) (v4 : Int32) (D : aD), Ok (J_X2_stepRow_100 v3 v4 D) (fun r => K r.1 r.2) → AW G (aRm 2 0 0) M_X2_stepRow fr 0 0 100 [some (.ref 74), none, none, some (.int v3), some (.int v4)] [] shp D (aQi shp K) := by
    intro v3 v4 D h
    unfold J_X2_stepRow_100 at h
    refine Ok.lp (P := fun s => AW G (aRm 2 0 0) M_X2_stepRow fr 0 0 100 [some (.ref 74), none, none, some (.int (s.1)), some (.int (s.2.1))] [] shp s.2.2 (aQi shp K)) (fun s Kb100 hL100 hR100 h => ?_) (v3, v4, D) (Ok.bind h)
    obtain ⟨v3, v4, D⟩ := s
    replace h : Ok (B_X2_stepRow_100 v3 v4 D) Kb100 := h
    unfold B_X2_stepRow_100 at h
    refine aw_iload_n (n := 101) (i := 3) dX2_stepRow_100 rfl rfl rfl ?_
    refine aw_iload (n := 103) (i := 4) dX2_stepRow_101 rfl rfl ?_
    refine aw_icmp_ge (n := 106) (tgt := 122) dX2_stepRow_103 rfl (by decide) (fun c => ?_) (fun c => ?_)
    · replace h := Ok.ift h c
      exact aw_le' (hJ_122 D (hR100 D (Ok.dn h :))) trivial
    · replace h := Ok.iff h c
      refine aw_aload_n (n := 107) (i := 0) dX2_stepRow_106 rfl rfl rfl ?_
      refine aw_iload_n (n := 108) (i := 3) dX2_stepRow_107 rfl rfl rfl ?_
      refine aw_iload (n := 110) (i := 4) dX2_stepRow_108 rfl rfl ?_
      refine aw_cVv (M := M_X2_stepRow) (n := 113) (As := [.int v3, .int v4]) (rest := []) hG.1 lk_RX2_109 rfl rfl (sF_74 hS) (c_X2_exchange hG hS (h := Ok.bind h)) (by decide) (Nat.le_of_ble_eq_true rfl) (by decide) (by decide) dX2_stepRow_110 rfl (fun D_6 h => ?_)
      obtain ⟨v3_7, e_v3_7, h⟩ := Ok.let_ h
      refine aw_iinc (n := 116) (al' := [some (.ref 74), none, none, some (.int v3_7), some (.int v4)]) dX2_stepRow_113 rfl rfl e_v3_7 (by decide) rfl ?_
      obtain ⟨v4_8, e_v4_8, h⟩ := Ok.let_ h
      refine aw_iinc (n := 119) (al' := [some (.ref 74), none, none, some (.int v3_7), some (.int v4_8)]) dX2_stepRow_116 rfl rfl e_v4_8 (by decide) rfl ?_
      refine aw_goto (tgt := 100) dX2_stepRow_119 (by decide) ?_
      exact aw_le' (hL100 (v3_7, v4_8, D_6) (Ok.dn h :)) ⟨rfl, ⟨rfl, ⟨rfl, trivial⟩⟩⟩
  have hJ_79 : ∀ (v1 : Int32) (v2 : Int32) (D : aD), Ok (J_X2_stepRow_79 v1 v2 D) (fun r => K r.1 r.2) → AW G (aRm 2 0 0) M_X2_stepRow fr 0 0 79 [some (.ref 74), some (.int v1), some (.int v2), none, none] [] shp D (aQi shp K) := by
    intro v1 v2 D h
    unfold J_X2_stepRow_79 at h
    refine aw_aload_n (n := 80) (i := 0) dX2_stepRow_79 rfl rfl rfl ?_
    refine aw_iload_n (n := 81) (i := 1) dX2_stepRow_80 rfl rfl rfl ?_
    refine aw_iload_n (n := 82) (i := 2) dX2_stepRow_81 rfl rfl rfl ?_
    refine aw_cVv (M := M_X2_stepRow) (n := 85) (As := [.int v1, .int v2]) (rest := []) hG.1 lk_RX2_109 rfl rfl (sF_74 hS) (c_X2_exchange hG hS (h := Ok.bind h)) (by decide) (Nat.le_of_ble_eq_true rfl) (by decide) (by decide) dX2_stepRow_82 rfl (fun D_3 h => ?_)
    refine aw_iload_n (n := 86) (i := 1) dX2_stepRow_85 rfl rfl rfl ?_
    refine aw_iconst (n := 87) (v := 1) dX2_stepRow_86 rfl (by decide) ?_
    refine aw_iadd (n := 88) dX2_stepRow_87 rfl ?_
    obtain ⟨v3_4, e_v3_4, h⟩ := Ok.let_ h
    refine aw_istore_n (n := 89) (i := 3) (al' := [some (.ref 74), some (.int v1), some (.int v2), some (.int v3_4), none]) dX2_stepRow_88 rfl rfl e_v3_4 (by decide) rfl ?_
    refine aw_aload_n (n := 90) (i := 0) dX2_stepRow_89 rfl rfl rfl ?_
    refine aw_getR (n := 93) (j := 0) (r := 2) hG.1 fl_RX2_24 (sF_74 hS) rfl dX2_stepRow_90 rfl ?_
    refine aw_getI (n := 96) (j := 5) hG.1 fl_RX2_39 (sF_2 hS) rfl dX2_stepRow_93 rfl ?_
    refine aw_iconst (n := 97) (v := 1) dX2_stepRow_96 rfl (by decide) ?_
    refine aw_isub (n := 98) dX2_stepRow_97 rfl ?_
    obtain ⟨v4_5, e_v4_5, h⟩ := Ok.let_ h
    refine aw_istore (n := 100) (i := 4) (al' := [some (.ref 74), some (.int v1), some (.int v2), some (.int v3_4), some (.int v4_5)]) dX2_stepRow_98 rfl e_v4_5 (by decide) rfl ?_
    exact aw_le' (hJ_100 v3_4 v4_5 D_3 h) ⟨rfl, ⟨rfl, ⟨rfl, trivial⟩⟩⟩
  have hJ_53 : ∀ (v1 : Int32) (v2 : Int32) (D : aD), Ok (J_X2_stepRow_53 v1 v2 D) (fun r => K r.1 r.2) → AW G (aRm 2 0 0) M_X2_stepRow fr 0 0 53 [some (.ref 74), some (.int v1), some (.int v2), none, none] [] shp D (aQi shp K) := by
    intro v1 v2 D h
    unfold J_X2_stepRow_53 at h
    refine Ok.lp (P := fun s => AW G (aRm 2 0 0) M_X2_stepRow fr 0 0 53 [some (.ref 74), some (.int v1), some (.int (s.1)), none, none] [] shp s.2 (aQi shp K)) (fun s Kb53 hL53 hR53 h => ?_) (v2, D) (Ok.bind h)
    obtain ⟨v2, D⟩ := s
    replace h : Ok (B_X2_stepRow_53 v1 v2 D) Kb53 := h
    unfold B_X2_stepRow_53 at h
    refine aw_iload_n (n := 54) (i := 2) dX2_stepRow_53 rfl rfl rfl ?_
    refine aw_iload_n (n := 55) (i := 1) dX2_stepRow_54 rfl rfl rfl ?_
    refine aw_icmp_le (n := 58) (tgt := 79) dX2_stepRow_55 rfl (by decide) (fun c => ?_) (fun c => ?_)
    · replace h := Ok.ift h c
      exact aw_le' (hJ_79 v1 v2 D (hR53 (v2, D) (Ok.dn h :))) ⟨rfl, ⟨rfl, ⟨rfl, trivial⟩⟩⟩
    · replace h := Ok.iff h c
      refine aw_aload_n (n := 59) (i := 0) dX2_stepRow_58 rfl rfl rfl ?_
      refine aw_getR (n := 62) (j := 3) (r := 75) hG.1 fl_RX2_9 (sF_74 hS) rfl dX2_stepRow_59 rfl ?_
      refine aw_iload_n (n := 63) (i := 2) dX2_stepRow_62 rfl rfl rfl ?_
      obtain ⟨g_9, h⟩ := Ok.gd h
      refine aw_iaload (n := 64) hG.1 (sF_75 hS) (aIn_in g_9) dX2_stepRow_63 rfl ?_
      refine aw_aload_n (n := 65) (i := 0) dX2_stepRow_64 rfl rfl rfl ?_
      refine aw_getR (n := 68) (j := 3) (r := 75) hG.1 fl_RX2_9 (sF_74 hS) rfl dX2_stepRow_65 rfl ?_
      refine aw_iload_n (n := 69) (i := 1) dX2_stepRow_68 rfl rfl rfl ?_
      obtain ⟨g_10, h⟩ := Ok.gd h
      refine aw_iaload (n := 70) hG.1 (sF_75 hS) (aIn_in g_10) dX2_stepRow_69 rfl ?_
      refine aw_icmp_ge (n := 73) (tgt := 79) dX2_stepRow_70 rfl (by decide) (fun c => ?_) (fun c => ?_)
      · replace h := Ok.ift h c
        exact aw_le' (hJ_79 v1 v2 D (hR53 (v2, D) (Ok.dn h :))) ⟨rfl, ⟨rfl, ⟨rfl, trivial⟩⟩⟩
      · replace h := Ok.iff h c
        obtain ⟨v2_11, e_v2_11, h⟩ := Ok.let_ h
        refine aw_iinc (n := 76) (al' := [some (.ref 74), some (.int v1), some (.int v2_11), none, none]) dX2_stepRow_73 rfl rfl e_v2_11 (by decide) rfl ?_
        refine aw_goto (tgt := 53) dX2_stepRow_76 (by decide) ?_
        exact aw_le' (hL53 (v2_11, D) (Ok.dn h :)) ⟨rfl, ⟨rfl, ⟨rfl, trivial⟩⟩⟩
  have hJ_37 : ∀ (v1 : Int32) (D : aD), Ok (J_X2_stepRow_37 v1 D) (fun r => K r.1 r.2) → AW G (aRm 2 0 0) M_X2_stepRow fr 0 0 37 [some (.ref 74), some (.int v1), none, none, none] [] shp D (aQi shp K) := by
    intro v1 D h
    unfold J_X2_stepRow_37 at h
    refine aw_iload_n (n := 38) (i := 1) dX2_stepRow_37 rfl rfl rfl ?_
    refine aw_if_ge (n := 41) (tgt := 43) dX2_stepRow_38 rfl (by decide) (fun c => ?_) (fun c => ?_)
    · replace h := Ok.ift h c
      refine aw_aload_n (n := 44) (i := 0) dX2_stepRow_43 rfl rfl rfl ?_
      refine aw_getR (n := 47) (j := 0) (r := 2) hG.1 fl_RX2_24 (sF_74 hS) rfl dX2_stepRow_44 rfl ?_
      refine aw_getI (n := 50) (j := 5) hG.1 fl_RX2_39 (sF_2 hS) rfl dX2_stepRow_47 rfl ?_
      refine aw_iconst (n := 51) (v := 1) dX2_stepRow_50 rfl (by decide) ?_
      refine aw_isub (n := 52) dX2_stepRow_51 rfl ?_
      obtain ⟨v2_2, e_v2_2, h⟩ := Ok.let_ h
      refine aw_istore_n (n := 53) (i := 2) (al' := [some (.ref 74), some (.int v1), some (.int v2_2), none, none]) dX2_stepRow_52 rfl rfl e_v2_2 (by decide) rfl ?_
      exact aw_le' (hJ_53 v1 v2_2 D h) ⟨rfl, ⟨rfl, ⟨rfl, trivial⟩⟩⟩
    · replace h := Ok.iff h c
      refine aw_iconst (n := 42) (v := 0) dX2_stepRow_41 rfl (by decide) ?_
      exact aw_zret rfl (by decide) (by decide) (by decide) dX2_stepRow_42 ⟨_, rfl, rfl, (Ok.dn h :)⟩
  have hJ_10 : ∀ (v1 : Int32) (D : aD), Ok (J_X2_stepRow_10 v1 D) (fun r => K r.1 r.2) → AW G (aRm 2 0 0) M_X2_stepRow fr 0 0 10 [some (.ref 74), some (.int v1), none, none, none] [] shp D (aQi shp K) := by
    intro v1 D h
    unfold J_X2_stepRow_10 at h
    refine Ok.lp (P := fun s => AW G (aRm 2 0 0) M_X2_stepRow fr 0 0 10 [some (.ref 74), some (.int (s.1)), none, none, none] [] shp s.2 (aQi shp K)) (fun s Kb10 hL10 hR10 h => ?_) (v1, D) (Ok.bind h)
    obtain ⟨v1, D⟩ := s
    replace h : Ok (B_X2_stepRow_10 v1 D) Kb10 := h
    unfold B_X2_stepRow_10 at h
    refine aw_iload_n (n := 11) (i := 1) dX2_stepRow_10 rfl rfl rfl ?_
    refine aw_if_lt (n := 14) (tgt := 37) dX2_stepRow_11 rfl (by decide) (fun c => ?_) (fun c => ?_)
    · replace h := Ok.ift h c
      exact aw_le' (hJ_37 v1 D (hR10 (v1, D) (Ok.dn h :))) ⟨rfl, ⟨rfl, trivial⟩⟩
    · replace h := Ok.iff h c
      refine aw_aload_n (n := 15) (i := 0) dX2_stepRow_14 rfl rfl rfl ?_
      refine aw_getR (n := 18) (j := 3) (r := 75) hG.1 fl_RX2_9 (sF_74 hS) rfl dX2_stepRow_15 rfl ?_
      refine aw_iload_n (n := 19) (i := 1) dX2_stepRow_18 rfl rfl rfl ?_
      obtain ⟨g_12, h⟩ := Ok.gd h
      refine aw_iaload (n := 20) hG.1 (sF_75 hS) (aIn_in g_12) dX2_stepRow_19 rfl ?_
      refine aw_aload_n (n := 21) (i := 0) dX2_stepRow_20 rfl rfl rfl ?_
      refine aw_getR (n := 24) (j := 3) (r := 75) hG.1 fl_RX2_9 (sF_74 hS) rfl dX2_stepRow_21 rfl ?_
      refine aw_iload_n (n := 25) (i := 1) dX2_stepRow_24 rfl rfl rfl ?_
      refine aw_iconst (n := 26) (v := 1) dX2_stepRow_25 rfl (by decide) ?_
      refine aw_iadd (n := 27) dX2_stepRow_26 rfl ?_
      obtain ⟨g_13, h⟩ := Ok.gd h
      refine aw_iaload (n := 28) hG.1 (sF_75 hS) (aIn_in g_13) dX2_stepRow_27 rfl ?_
      refine aw_icmp_le (n := 31) (tgt := 37) dX2_stepRow_28 rfl (by decide) (fun c => ?_) (fun c => ?_)
      · replace h := Ok.ift h c
        exact aw_le' (hJ_37 v1 D (hR10 (v1, D) (Ok.dn h :))) ⟨rfl, ⟨rfl, trivial⟩⟩
      · replace h := Ok.iff h c
        obtain ⟨v1_14, e_v1_14, h⟩ := Ok.let_ h
        refine aw_iinc (n := 34) (al' := [some (.ref 74), some (.int v1_14), none, none, none]) dX2_stepRow_31 rfl rfl e_v1_14 (by decide) rfl ?_
        refine aw_goto (tgt := 10) dX2_stepRow_34 (by decide) ?_
        exact aw_le' (hL10 (v1_14, D) (Ok.dn h :)) ⟨rfl, ⟨rfl, trivial⟩⟩
  refine aw_aload_n (n := 1) (i := 0) dX2_stepRow_0 rfl rfl rfl ?_
  refine aw_getR (n := 4) (j := 0) (r := 2) hG.1 fl_RX2_24 (sF_74 hS) rfl dX2_stepRow_1 rfl ?_
  refine aw_getI (n := 7) (j := 5) hG.1 fl_RX2_39 (sF_2 hS) rfl dX2_stepRow_4 rfl ?_
  refine aw_iconst (n := 8) (v := 2) dX2_stepRow_7 rfl (by decide) ?_
  refine aw_isub (n := 9) dX2_stepRow_8 rfl ?_
  obtain ⟨v1_1, e_v1_1, h⟩ := Ok.let_ h
  refine aw_istore_n (n := 10) (i := 1) (al' := [some (.ref 74), some (.int v1_1), none, none, none]) dX2_stepRow_9 rfl rfl e_v1_1 (by decide) rfl ?_
  exact aw_le' (hJ_10 v1_1 D h) ⟨rfl, ⟨rfl, trivial⟩⟩
theorem dX2_search_0 : decode cX2_search 0 = .ok (.aload_n 0, 1) := by decide +kernel
theorem dX2_search_1 : decode cX2_search 1 = .ok (.invokevirtual 36, 3) := by decide +kernel
theorem dX2_search_4 : decode cX2_search 4 = .ok (.iconst 0, 1) := by decide +kernel
theorem dX2_search_5 : decode cX2_search 5 = .ok (.istore_n 1, 1) := by decide +kernel
theorem dX2_search_6 : decode cX2_search 6 = .ok (.iload_n 1, 1) := by decide +kernel
theorem dX2_search_7 : decode cX2_search 7 = .ok (.aload_n 0, 1) := by decide +kernel
theorem dX2_search_8 : decode cX2_search 8 = .ok (.getfield 24, 3) := by decide +kernel
theorem dX2_search_11 : decode cX2_search 11 = .ok (.getfield 39, 3) := by decide +kernel
theorem dX2_search_14 : decode cX2_search 14 = .ok (.if_icmp .ge 16, 3) := by decide +kernel
theorem dX2_search_17 : decode cX2_search 17 = .ok (.aload_n 0, 1) := by decide +kernel
theorem dX2_search_18 : decode cX2_search 18 = .ok (.getfield 9, 3) := by decide +kernel
theorem dX2_search_21 : decode cX2_search 21 = .ok (.iload_n 1, 1) := by decide +kernel
theorem dX2_search_22 : decode cX2_search 22 = .ok (.iload_n 1, 1) := by decide +kernel
theorem dX2_search_23 : decode cX2_search 23 = .ok (.iastore, 1) := by decide +kernel
theorem dX2_search_24 : decode cX2_search 24 = .ok (.iinc 1 1, 3) := by decide +kernel
theorem dX2_search_27 : decode cX2_search 27 = .ok (.goto (-21), 3) := by decide +kernel
theorem dX2_search_30 : decode cX2_search 30 = .ok (.iconst (-1), 1) := by decide +kernel
theorem dX2_search_31 : decode cX2_search 31 = .ok (.istore_n 1, 1) := by decide +kernel
theorem dX2_search_32 : decode cX2_search 32 = .ok (.iconst 1, 1) := by decide +kernel
theorem dX2_search_33 : decode cX2_search 33 = .ok (.istore_n 2, 1) := by decide +kernel
theorem dX2_search_34 : decode cX2_search 34 = .ok (.iconst 0, 1) := by decide +kernel
theorem dX2_search_35 : decode cX2_search 35 = .ok (.istore_n 3, 1) := by decide +kernel
theorem dX2_search_36 : decode cX2_search 36 = .ok (.iload_n 3, 1) := by decide +kernel
theorem dX2_search_37 : decode cX2_search 37 = .ok (.bipush 120, 2) := by decide +kernel
theorem dX2_search_39 : decode cX2_search 39 = .ok (.if_icmp .ge 52, 3) := by decide +kernel
theorem dX2_search_42 : decode cX2_search 42 = .ok (.iload_n 2, 1) := by decide +kernel
theorem dX2_search_43 : decode cX2_search 43 = .ok (.ifCond .eq 48, 3) := by decide +kernel
theorem dX2_search_46 : decode cX2_search 46 = .ok (.aload_n 0, 1) := by decide +kernel
theorem dX2_search_47 : decode cX2_search 47 = .ok (.invokevirtual 45, 3) := by decide +kernel
theorem dX2_search_50 : decode cX2_search 50 = .ok (.istore 4, 2) := by decide +kernel
theorem dX2_search_52 : decode cX2_search 52 = .ok (.iload_n 1, 1) := by decide +kernel
theorem dX2_search_53 : decode cX2_search 53 = .ok (.iconst (-1), 1) := by decide +kernel
theorem dX2_search_54 : decode cX2_search 54 = .ok (.if_icmp .eq 9, 3) := by decide +kernel
theorem dX2_search_57 : decode cX2_search 57 = .ok (.iload 4, 2) := by decide +kernel
theorem dX2_search_59 : decode cX2_search 59 = .ok (.iload_n 1, 1) := by decide +kernel
theorem dX2_search_60 : decode cX2_search 60 = .ok (.if_icmp .ge 20, 3) := by decide +kernel
theorem dX2_search_63 : decode cX2_search 63 = .ok (.iload 4, 2) := by decide +kernel
theorem dX2_search_65 : decode cX2_search 65 = .ok (.istore_n 1, 1) := by decide +kernel
theorem dX2_search_66 : decode cX2_search 66 = .ok (.aload_n 0, 1) := by decide +kernel
theorem dX2_search_67 : decode cX2_search 67 = .ok (.getfield 9, 3) := by decide +kernel
theorem dX2_search_70 : decode cX2_search 70 = .ok (.iconst 0, 1) := by decide +kernel
theorem dX2_search_71 : decode cX2_search 71 = .ok (.aload_n 0, 1) := by decide +kernel
theorem dX2_search_72 : decode cX2_search 72 = .ok (.getfield 15, 3) := by decide +kernel
theorem dX2_search_75 : decode cX2_search 75 = .ok (.iconst 0, 1) := by decide +kernel
theorem dX2_search_76 : decode cX2_search 76 = .ok (.iconst 5, 1) := by decide +kernel
theorem dX2_search_77 : decode cX2_search 77 = .ok (.invokestatic 49, 3) := by decide +kernel
theorem dX2_search_80 : decode cX2_search 80 = .ok (.aload_n 0, 1) := by decide +kernel
theorem dX2_search_81 : decode cX2_search 81 = .ok (.invokevirtual 55, 3) := by decide +kernel
theorem dX2_search_84 : decode cX2_search 84 = .ok (.istore_n 2, 1) := by decide +kernel
theorem dX2_search_85 : decode cX2_search 85 = .ok (.iinc 3 1, 3) := by decide +kernel
theorem dX2_search_88 : decode cX2_search 88 = .ok (.goto (-52), 3) := by decide +kernel
theorem dX2_search_91 : decode cX2_search 91 = .ok (.iload_n 1, 1) := by decide +kernel
theorem dX2_search_92 : decode cX2_search 92 = .ok (.ireturn, 1) := by decide +kernel
def J_X2_search_91 (v1 : Int32) (D : aD) : Option (Int32 × aD) :=
  some (v1, D)
def J_X2_search_80 (v1 : Int32) (v3 : Int32) (D : aD) : Option ((Int32 × Int32 × Int32 × aD) ⊕ ((Int32 × aD))) :=
  aBi (f_X2_stepRow D) (fun y_6 D_7 => aLet (v3 + 1) (fun v3_8 => some (.inl (v1, y_6, v3_8, D_7))))
def J_X2_search_63 (v3 : Int32) (v4 : Int32) (D : aD) : Option ((Int32 × Int32 × Int32 × aD) ⊕ ((Int32 × aD))) :=
  aGd (aCg 0 0 5 5 5) (aLet (aCp D 75 76 0 0 5) (fun D_5 => J_X2_search_80 v4 v3 D_5))
def B_X2_search_36 (v1 : Int32) (v2 : Int32) (v3 : Int32) (D : aD) : Option ((Int32 × Int32 × Int32 × aD) ⊕ ((Int32 × aD))) :=
  if 120 ≤ v3 then (some (.inr (v1, D))) else (if v2 = 0 then (some (.inr (v1, D))) else (aBi (f_X2_greatestDifference D) (fun y_2 D_3 => if v1 = (-1) then (J_X2_search_63 v3 y_2 D_3) else (if v1 ≤ y_2 then (J_X2_search_80 v1 v3 D_3) else (J_X2_search_63 v3 y_2 D_3)))))
def J_X2_search_36 (v1 : Int32) (v2 : Int32) (v3 : Int32) (D : aD) : Option (Int32 × aD) :=
  (aLp (fun s => B_X2_search_36 s.1 s.2.1 s.2.2.1 s.2.2.2) (v1, v2, v3, D)).bind (fun r => J_X2_search_91 (r.1) r.2)
def J_X2_search_30 (D : aD) : Option (Int32 × aD) :=
  J_X2_search_36 (-1) 1 0 D
def B_X2_search_6 (v1 : Int32) (D : aD) : Option ((Int32 × aD) ⊕ ((aD))) :=
  if gI D 2 5 ≤ v1 then (some (.inr D)) else (aGd (aIn v1 5) (aLet (pI D 75 v1.toNatClampNeg v1) (fun D_10 => aLet (v1 + 1) (fun v1_11 => some (.inl (v1_11, D_10))))))
def J_X2_search_6 (v1 : Int32) (D : aD) : Option (Int32 × aD) :=
  (aLp (fun s => B_X2_search_6 s.1 s.2) (v1, D)).bind (fun r => J_X2_search_30 r)
def f_X2_search (D : aD) : Option (Int32 × aD) :=
  (f_X2_markAll D).bind (fun D_1 => J_X2_search_6 0 D_1)
set_option maxRecDepth 100000 in
set_option maxHeartbeats 800000 in
theorem c_X2_search {G : aG} (hG : gOK G) {shp : List aSh} (hS : aShp shp) {fr : Option Nat} {D : aD} {K : Int32 → aD → Prop} (h : Ok2 (f_X2_search D) K) : AC G (aRm 6 0 0) M_X2_search [.ref 74] fr shp D (aQi shp K) := by
  replace h := Ok2.ok h
  unfold f_X2_search at h
  refine AC.of (al := [some (.ref 74), none, none, none, none]) (r := 4) (by decide) (Nat.le_of_ble_eq_true rfl) rfl ?_
  have hJ_91 : ∀ (v1 : Int32) (D : aD), Ok (J_X2_search_91 v1 D) (fun r => K r.1 r.2) → AW G (aRm 6 0 0) M_X2_search fr 0 0 91 [none, some (.int v1), none, none, none] [] shp D (aQi shp K) := by
    intro v1 D h
    unfold J_X2_search_91 at h
    refine aw_iload_n (n := 92) (i := 1) dX2_search_91 rfl rfl rfl ?_
    exact aw_iret rfl (by decide) (by decide) dX2_search_92 ⟨_, rfl, rfl, (Ok.dn h :)⟩
  have hJ_36 : ∀ (v1 : Int32) (v2 : Int32) (v3 : Int32) (D : aD), Ok (J_X2_search_36 v1 v2 v3 D) (fun r => K r.1 r.2) → AW G (aRm 6 0 0) M_X2_search fr 0 0 36 [some (.ref 74), some (.int v1), some (.int v2), some (.int v3), none] [] shp D (aQi shp K) := by
    intro v1 v2 v3 D h
    unfold J_X2_search_36 at h
    refine Ok.lp (P := fun s => AW G (aRm 6 0 0) M_X2_search fr 0 0 36 [some (.ref 74), some (.int (s.1)), some (.int (s.2.1)), some (.int (s.2.2.1)), none] [] shp s.2.2.2 (aQi shp K)) (fun s Kb36 hL36 hR36 h => ?_) (v1, v2, v3, D) (Ok.bind h)
    obtain ⟨v1, v2, v3, D⟩ := s
    replace h : Ok (B_X2_search_36 v1 v2 v3 D) Kb36 := h
    unfold B_X2_search_36 at h
    have hJ_80 : ∀ (v1 : Int32) (v3 : Int32) (D : aD), Ok (J_X2_search_80 v1 v3 D) Kb36 → AW G (aRm 6 0 0) M_X2_search fr 0 0 80 [some (.ref 74), some (.int v1), none, some (.int v3), none] [] shp D (aQi shp K) := by
      intro v1 v3 D h
      unfold J_X2_search_80 at h
      refine aw_aload_n (n := 81) (i := 0) dX2_search_80 rfl rfl rfl ?_
      refine aw_cVi (M := M_X2_search) (n := 84) (As := []) (rest := []) hG.1 lk_RX2_55 rfl rfl (sF_74 hS) (c_X2_stepRow hG hS (h := Ok.bi h)) (by decide) (Nat.le_of_ble_eq_true rfl) (by decide) (by decide) dX2_search_81 rfl (fun y_6 D_7 h => ?_)
      refine aw_istore_n (n := 85) (i := 2) (al' := [some (.ref 74), some (.int v1), some (.int y_6), some (.int v3), none]) dX2_search_84 rfl rfl rfl (by decide) rfl ?_
      obtain ⟨v3_8, e_v3_8, h⟩ := Ok.let_ h
      refine aw_iinc (n := 88) (al' := [some (.ref 74), some (.int v1), some (.int y_6), some (.int v3_8), none]) dX2_search_85 rfl rfl e_v3_8 (by decide) rfl ?_
      refine aw_goto (tgt := 36) dX2_search_88 (by decide) ?_
      exact aw_le' (hL36 (v1, y_6, v3_8, D_7) (Ok.dn h :)) ⟨rfl, ⟨rfl, ⟨rfl, ⟨rfl, trivial⟩⟩⟩⟩
    have hJ_63 : ∀ (v3 : Int32) (v4 : Int32) (D : aD), Ok (J_X2_search_63 v3 v4 D) Kb36 → AW G (aRm 6 0 0) M_X2_search fr 0 0 63 [some (.ref 74), none, none, some (.int v3), some (.int v4)] [] shp D (aQi shp K) := by
      intro v3 v4 D h
      unfold J_X2_search_63 at h
      refine aw_iload (n := 65) (i := 4) dX2_search_63 rfl rfl ?_
      refine aw_istore_n (n := 66) (i := 1) (al' := [some (.ref 74), some (.int v4), none, some (.int v3), some (.int v4)]) dX2_search_65 rfl rfl rfl (by decide) rfl ?_
      refine aw_aload_n (n := 67) (i := 0) dX2_search_66 rfl rfl rfl ?_
      refine aw_getR (n := 70) (j := 3) (r := 75) hG.1 fl_RX2_9 (sF_74 hS) rfl dX2_search_67 rfl ?_
      refine aw_iconst (n := 71) (v := 0) dX2_search_70 rfl (by decide) ?_
      refine aw_aload_n (n := 72) (i := 0) dX2_search_71 rfl rfl rfl ?_
      refine aw_getR (n := 75) (j := 4) (r := 76) hG.1 fl_RX2_15 (sF_74 hS) rfl dX2_search_72 rfl ?_
      refine aw_iconst (n := 76) (v := 0) dX2_search_75 rfl (by decide) ?_
      refine aw_iconst (n := 77) (v := 5) dX2_search_76 rfl (by decide) ?_
      obtain ⟨g_4, h⟩ := Ok.gd h
      obtain ⟨D_5, e_D_5, h⟩ := Ok.let_ h
      refine aw_copy (M := M_X2_search) (n := 80) hG.1 la_RX2_49 ma_copy.1 ma_copy.2.1 ma_copy.2.2 (sF_75 hS) (sF_76 hS) (aCg_ok g_4).1 (aCg_ok g_4).2.1 (aCg_ok g_4).2.2.1 (aCg_ok g_4).2.2.2.1 (aCg_ok g_4).2.2.2.2 e_D_5 (by decide) (Nat.le_of_ble_eq_true rfl) dX2_search_77 rfl ?_
      exact aw_le' (hJ_80 v4 v3 D_5 h) ⟨rfl, ⟨rfl, ⟨rfl, trivial⟩⟩⟩
    refine aw_iload_n (n := 37) (i := 3) dX2_search_36 rfl rfl rfl ?_
    refine aw_bipush (n := 39) (v := 120) dX2_search_37 rfl (by decide) ?_
    refine aw_icmp_ge (n := 42) (tgt := 91) dX2_search_39 rfl (by decide) (fun c => ?_) (fun c => ?_)
    · replace h := Ok.ift h c
      exact aw_le' (hJ_91 v1 D (hR36 (v1, D) (Ok.dn h :))) ⟨rfl, trivial⟩
    · replace h := Ok.iff h c
      refine aw_iload_n (n := 43) (i := 2) dX2_search_42 rfl rfl rfl ?_
      refine aw_if_eq (n := 46) (tgt := 91) dX2_search_43 rfl (by decide) (fun c => ?_) (fun c => ?_)
      · replace h := Ok.ift h c
        exact aw_le' (hJ_91 v1 D (hR36 (v1, D) (Ok.dn h :))) ⟨rfl, trivial⟩
      · replace h := Ok.iff h c
        refine aw_aload_n (n := 47) (i := 0) dX2_search_46 rfl rfl rfl ?_
        refine aw_cVi (M := M_X2_search) (n := 50) (As := []) (rest := []) hG.1 lk_RX2_45 rfl rfl (sF_74 hS) (c_X2_greatestDifference hG hS (h := Ok.bi h)) (by decide) (Nat.le_of_ble_eq_true rfl) (by decide) (by decide) dX2_search_47 rfl (fun y_2 D_3 h => ?_)
        refine aw_istore (n := 52) (i := 4) (al' := [some (.ref 74), some (.int v1), some (.int v2), some (.int v3), some (.int y_2)]) dX2_search_50 rfl rfl (by decide) rfl ?_
        refine aw_iload_n (n := 53) (i := 1) dX2_search_52 rfl rfl rfl ?_
        refine aw_iconst (n := 54) (v := (-1)) dX2_search_53 rfl (by decide) ?_
        refine aw_icmp_eq (n := 57) (tgt := 63) dX2_search_54 rfl (by decide) (fun c => ?_) (fun c => ?_)
        · replace h := Ok.ift h c
          exact aw_le' (hJ_63 v3 y_2 D_3 h) ⟨rfl, ⟨rfl, ⟨rfl, trivial⟩⟩⟩
        · replace h := Ok.iff h c
          refine aw_iload (n := 59) (i := 4) dX2_search_57 rfl rfl ?_
          refine aw_iload_n (n := 60) (i := 1) dX2_search_59 rfl rfl rfl ?_
          refine aw_icmp_ge (n := 63) (tgt := 80) dX2_search_60 rfl (by decide) (fun c => ?_) (fun c => ?_)
          · replace h := Ok.ift h c
            exact aw_le' (hJ_80 v1 v3 D_3 h) ⟨rfl, ⟨rfl, ⟨rfl, trivial⟩⟩⟩
          · replace h := Ok.iff h c
            exact aw_le' (hJ_63 v3 y_2 D_3 h) ⟨rfl, ⟨rfl, ⟨rfl, trivial⟩⟩⟩
  have hJ_30 : ∀ (D : aD), Ok (J_X2_search_30 D) (fun r => K r.1 r.2) → AW G (aRm 6 0 0) M_X2_search fr 0 0 30 [some (.ref 74), none, none, none, none] [] shp D (aQi shp K) := by
    intro D h
    unfold J_X2_search_30 at h
    refine aw_iconst (n := 31) (v := (-1)) dX2_search_30 rfl (by decide) ?_
    refine aw_istore_n (n := 32) (i := 1) (al' := [some (.ref 74), some (.int (-1)), none, none, none]) dX2_search_31 rfl rfl rfl (by decide) rfl ?_
    refine aw_iconst (n := 33) (v := 1) dX2_search_32 rfl (by decide) ?_
    refine aw_istore_n (n := 34) (i := 2) (al' := [some (.ref 74), some (.int (-1)), some (.int 1), none, none]) dX2_search_33 rfl rfl rfl (by decide) rfl ?_
    refine aw_iconst (n := 35) (v := 0) dX2_search_34 rfl (by decide) ?_
    refine aw_istore_n (n := 36) (i := 3) (al' := [some (.ref 74), some (.int (-1)), some (.int 1), some (.int 0), none]) dX2_search_35 rfl rfl rfl (by decide) rfl ?_
    exact aw_le' (hJ_36 (-1) 1 0 D h) ⟨rfl, ⟨rfl, ⟨rfl, ⟨rfl, trivial⟩⟩⟩⟩
  have hJ_6 : ∀ (v1 : Int32) (D : aD), Ok (J_X2_search_6 v1 D) (fun r => K r.1 r.2) → AW G (aRm 6 0 0) M_X2_search fr 0 0 6 [some (.ref 74), some (.int v1), none, none, none] [] shp D (aQi shp K) := by
    intro v1 D h
    unfold J_X2_search_6 at h
    refine Ok.lp (P := fun s => AW G (aRm 6 0 0) M_X2_search fr 0 0 6 [some (.ref 74), some (.int (s.1)), none, none, none] [] shp s.2 (aQi shp K)) (fun s Kb6 hL6 hR6 h => ?_) (v1, D) (Ok.bind h)
    obtain ⟨v1, D⟩ := s
    replace h : Ok (B_X2_search_6 v1 D) Kb6 := h
    unfold B_X2_search_6 at h
    refine aw_iload_n (n := 7) (i := 1) dX2_search_6 rfl rfl rfl ?_
    refine aw_aload_n (n := 8) (i := 0) dX2_search_7 rfl rfl rfl ?_
    refine aw_getR (n := 11) (j := 0) (r := 2) hG.1 fl_RX2_24 (sF_74 hS) rfl dX2_search_8 rfl ?_
    refine aw_getI (n := 14) (j := 5) hG.1 fl_RX2_39 (sF_2 hS) rfl dX2_search_11 rfl ?_
    refine aw_icmp_ge (n := 17) (tgt := 30) dX2_search_14 rfl (by decide) (fun c => ?_) (fun c => ?_)
    · replace h := Ok.ift h c
      exact aw_le' (hJ_30 D (hR6 D (Ok.dn h :))) ⟨rfl, trivial⟩
    · replace h := Ok.iff h c
      refine aw_aload_n (n := 18) (i := 0) dX2_search_17 rfl rfl rfl ?_
      refine aw_getR (n := 21) (j := 3) (r := 75) hG.1 fl_RX2_9 (sF_74 hS) rfl dX2_search_18 rfl ?_
      refine aw_iload_n (n := 22) (i := 1) dX2_search_21 rfl rfl rfl ?_
      refine aw_iload_n (n := 23) (i := 1) dX2_search_22 rfl rfl rfl ?_
      obtain ⟨g_9, h⟩ := Ok.gd h
      obtain ⟨D_10, e_D_10, h⟩ := Ok.let_ h
      refine aw_iastore (n := 24) hG.1 (sF_75 hS) (aIn_in g_9) e_D_10 dX2_search_23 rfl ?_
      obtain ⟨v1_11, e_v1_11, h⟩ := Ok.let_ h
      refine aw_iinc (n := 27) (al' := [some (.ref 74), some (.int v1_11), none, none, none]) dX2_search_24 rfl rfl e_v1_11 (by decide) rfl ?_
      refine aw_goto (tgt := 6) dX2_search_27 (by decide) ?_
      exact aw_le' (hL6 (v1_11, D_10) (Ok.dn h :)) ⟨rfl, ⟨rfl, trivial⟩⟩
  refine aw_aload_n (n := 1) (i := 0) dX2_search_0 rfl rfl rfl ?_
  refine aw_cVv (M := M_X2_search) (n := 4) (As := []) (rest := []) hG.1 lk_RX2_36 rfl rfl (sF_74 hS) (c_X2_markAll hG hS (h := Ok.bind h)) (by decide) (Nat.le_of_ble_eq_true rfl) (by decide) (by decide) dX2_search_1 rfl (fun D_1 h => ?_)
  refine aw_iconst (n := 5) (v := 0) dX2_search_4 rfl (by decide) ?_
  refine aw_istore_n (n := 6) (i := 1) (al' := [some (.ref 74), some (.int 0), none, none, none]) dX2_search_5 rfl rfl rfl (by decide) rfl ?_
  exact aw_le' (hJ_6 0 D_1 h) ⟨rfl, ⟨rfl, trivial⟩⟩
theorem dX1_windAt_0 : decode cX1_windAt 0 = .ok (.iconst 0, 1) := by decide +kernel
theorem dX1_windAt_1 : decode cX1_windAt 1 = .ok (.istore_n 2, 1) := by decide +kernel
theorem dX1_windAt_2 : decode cX1_windAt 2 = .ok (.iconst 0, 1) := by decide +kernel
theorem dX1_windAt_3 : decode cX1_windAt 3 = .ok (.istore_n 3, 1) := by decide +kernel
theorem dX1_windAt_4 : decode cX1_windAt 4 = .ok (.iload_n 3, 1) := by decide +kernel
theorem dX1_windAt_5 : decode cX1_windAt 5 = .ok (.iconst 5, 1) := by decide +kernel
theorem dX1_windAt_6 : decode cX1_windAt 6 = .ok (.if_icmp .ge 28, 3) := by decide +kernel
theorem dX1_windAt_9 : decode cX1_windAt 9 = .ok (.iload_n 2, 1) := by decide +kernel
theorem dX1_windAt_10 : decode cX1_windAt 10 = .ok (.aload_n 0, 1) := by decide +kernel
theorem dX1_windAt_11 : decode cX1_windAt 11 = .ok (.getfield 33, 3) := by decide +kernel
theorem dX1_windAt_14 : decode cX1_windAt 14 = .ok (.getfield 83, 3) := by decide +kernel
theorem dX1_windAt_17 : decode cX1_windAt 17 = .ok (.iload_n 3, 1) := by decide +kernel
theorem dX1_windAt_18 : decode cX1_windAt 18 = .ok (.iaload, 1) := by decide +kernel
theorem dX1_windAt_19 : decode cX1_windAt 19 = .ok (.iadd, 1) := by decide +kernel
theorem dX1_windAt_20 : decode cX1_windAt 20 = .ok (.istore_n 2, 1) := by decide +kernel
theorem dX1_windAt_21 : decode cX1_windAt 21 = .ok (.iload_n 2, 1) := by decide +kernel
theorem dX1_windAt_22 : decode cX1_windAt 22 = .ok (.iload_n 1, 1) := by decide +kernel
theorem dX1_windAt_23 : decode cX1_windAt 23 = .ok (.if_icmp .le 5, 3) := by decide +kernel
theorem dX1_windAt_26 : decode cX1_windAt 26 = .ok (.iload_n 3, 1) := by decide +kernel
theorem dX1_windAt_27 : decode cX1_windAt 27 = .ok (.ireturn, 1) := by decide +kernel
theorem dX1_windAt_28 : decode cX1_windAt 28 = .ok (.iinc 3 1, 3) := by decide +kernel
theorem dX1_windAt_31 : decode cX1_windAt 31 = .ok (.goto (-27), 3) := by decide +kernel
theorem dX1_windAt_34 : decode cX1_windAt 34 = .ok (.iconst 0, 1) := by decide +kernel
theorem dX1_windAt_35 : decode cX1_windAt 35 = .ok (.ireturn, 1) := by decide +kernel
def J_X1_windAt_26 (v3 : Int32) (D : aD) : Option (Int32 × aD) :=
  some (v3, D)
def J_X1_windAt_34 (D : aD) : Option (Int32 × aD) :=
  some (0, D)
def B_X1_windAt_4 (v1 : Int32) (v2 : Int32) (v3 : Int32) (D : aD) : Option ((Int32 × Int32 × aD) ⊕ ((Int32 × aD) ⊕ (aD))) :=
  if 5 ≤ v3 then (some (.inr (.inr (D)))) else (aGd (aIn v3 5) (aLet (v2 + (gI D 14 v3.toNatClampNeg)) (fun v2_2 => if v2_2 ≤ v1 then (aLet (v3 + 1) (fun v3_3 => some (.inl (v2_2, v3_3, D)))) else (some (.inr (.inl ((v3, D))))))))
def J_X1_windAt_4 (v1 : Int32) (v2 : Int32) (v3 : Int32) (D : aD) : Option (Int32 × aD) :=
  (aLp (fun s => B_X1_windAt_4 v1 s.1 s.2.1 s.2.2) (v2, v3, D)).bind (Sum.elim (fun r => J_X1_windAt_26 (r.1) r.2) ((fun r => J_X1_windAt_34 r)))
def f_X1_windAt (v1 : Int32) (D : aD) : Option (Int32 × aD) :=
  J_X1_windAt_4 v1 0 0 D
set_option maxRecDepth 100000 in
set_option maxHeartbeats 800000 in
theorem c_X1_windAt {G : aG} (hG : gOK G) {shp : List aSh} (hS : aShp shp) {fr : Option Nat} {v1 : Int32} {D : aD} {K : Int32 → aD → Prop} (h : Ok2 (f_X1_windAt v1 D) K) : AC G (aRm 1 0 0) M_X1_windAt [.ref 60, .int v1] fr shp D (aQi shp K) := by
  replace h := Ok2.ok h
  unfold f_X1_windAt at h
  refine AC.of (al := [some (.ref 60), some (.int v1), none, none]) (r := 2) (by decide) (Nat.le_of_ble_eq_true rfl) rfl ?_
  have hJ_26 : ∀ (v3 : Int32) (D : aD), Ok (J_X1_windAt_26 v3 D) (fun r => K r.1 r.2) → AW G (aRm 1 0 0) M_X1_windAt fr 0 0 26 [none, none, none, some (.int v3)] [] shp D (aQi shp K) := by
    intro v3 D h
    unfold J_X1_windAt_26 at h
    refine aw_iload_n (n := 27) (i := 3) dX1_windAt_26 rfl rfl rfl ?_
    exact aw_iret rfl (by decide) (by decide) dX1_windAt_27 ⟨_, rfl, rfl, (Ok.dn h :)⟩
  have hJ_34 : ∀ (D : aD), Ok (J_X1_windAt_34 D) (fun r => K r.1 r.2) → AW G (aRm 1 0 0) M_X1_windAt fr 0 0 34 [none, none, none, none] [] shp D (aQi shp K) := by
    intro D h
    unfold J_X1_windAt_34 at h
    refine aw_iconst (n := 35) (v := 0) dX1_windAt_34 rfl (by decide) ?_
    exact aw_iret rfl (by decide) (by decide) dX1_windAt_35 ⟨_, rfl, rfl, (Ok.dn h :)⟩
  have hJ_4 : ∀ (v1 : Int32) (v2 : Int32) (v3 : Int32) (D : aD), Ok (J_X1_windAt_4 v1 v2 v3 D) (fun r => K r.1 r.2) → AW G (aRm 1 0 0) M_X1_windAt fr 0 0 4 [some (.ref 60), some (.int v1), some (.int v2), some (.int v3)] [] shp D (aQi shp K) := by
    intro v1 v2 v3 D h
    unfold J_X1_windAt_4 at h
    refine Ok.lp (P := fun s => AW G (aRm 1 0 0) M_X1_windAt fr 0 0 4 [some (.ref 60), some (.int v1), some (.int (s.1)), some (.int (s.2.1))] [] shp s.2.2 (aQi shp K)) (fun s Kb4 hL4 hR4 h => ?_) (v2, v3, D) (Ok.bind h)
    obtain ⟨v2, v3, D⟩ := s
    replace h : Ok (B_X1_windAt_4 v1 v2 v3 D) Kb4 := h
    unfold B_X1_windAt_4 at h
    refine aw_iload_n (n := 5) (i := 3) dX1_windAt_4 rfl rfl rfl ?_
    refine aw_iconst (n := 6) (v := 5) dX1_windAt_5 rfl (by decide) ?_
    refine aw_icmp_ge (n := 9) (tgt := 34) dX1_windAt_6 rfl (by decide) (fun c => ?_) (fun c => ?_)
    · replace h := Ok.ift h c
      exact aw_le' (hJ_34 D (Ok.er (hR4 (.inr (D)) (Ok.dn h :)) :)) trivial
    · replace h := Ok.iff h c
      refine aw_iload_n (n := 10) (i := 2) dX1_windAt_9 rfl rfl rfl ?_
      refine aw_aload_n (n := 11) (i := 0) dX1_windAt_10 rfl rfl rfl ?_
      refine aw_getR (n := 14) (j := 0) (r := 2) hG.1 fl_RX1_33 (sF_60 hS) rfl dX1_windAt_11 rfl ?_
      refine aw_getR (n := 17) (j := 16) (r := 14) hG.1 fl_RX1_83 (sF_2 hS) rfl dX1_windAt_14 rfl ?_
      refine aw_iload_n (n := 18) (i := 3) dX1_windAt_17 rfl rfl rfl ?_
      obtain ⟨g_1, h⟩ := Ok.gd h
      refine aw_iaload (n := 19) hG.1 (sF_14 hS) (aIn_in g_1) dX1_windAt_18 rfl ?_
      refine aw_iadd (n := 20) dX1_windAt_19 rfl ?_
      obtain ⟨v2_2, e_v2_2, h⟩ := Ok.let_ h
      refine aw_istore_n (n := 21) (i := 2) (al' := [some (.ref 60), some (.int v1), some (.int v2_2), some (.int v3)]) dX1_windAt_20 rfl rfl e_v2_2 (by decide) rfl ?_
      refine aw_iload_n (n := 22) (i := 2) dX1_windAt_21 rfl rfl rfl ?_
      refine aw_iload_n (n := 23) (i := 1) dX1_windAt_22 rfl rfl rfl ?_
      refine aw_icmp_le (n := 26) (tgt := 28) dX1_windAt_23 rfl (by decide) (fun c => ?_) (fun c => ?_)
      · replace h := Ok.ift h c
        obtain ⟨v3_3, e_v3_3, h⟩ := Ok.let_ h
        refine aw_iinc (n := 31) (al' := [some (.ref 60), some (.int v1), some (.int v2_2), some (.int v3_3)]) dX1_windAt_28 rfl rfl e_v3_3 (by decide) rfl ?_
        refine aw_goto (tgt := 4) dX1_windAt_31 (by decide) ?_
        exact aw_le' (hL4 (v2_2, v3_3, D) (Ok.dn h :)) ⟨rfl, ⟨rfl, ⟨rfl, ⟨rfl, trivial⟩⟩⟩⟩
      · replace h := Ok.iff h c
        exact aw_le' (hJ_26 v3 D (Ok.el (hR4 (.inl ((v3, D))) (Ok.dn h :)) :)) ⟨rfl, trivial⟩
  refine aw_iconst (n := 1) (v := 0) dX1_windAt_0 rfl (by decide) ?_
  refine aw_istore_n (n := 2) (i := 2) (al' := [some (.ref 60), some (.int v1), some (.int 0), none]) dX1_windAt_1 rfl rfl rfl (by decide) rfl ?_
  refine aw_iconst (n := 3) (v := 0) dX1_windAt_2 rfl (by decide) ?_
  refine aw_istore_n (n := 4) (i := 3) (al' := [some (.ref 60), some (.int v1), some (.int 0), some (.int 0)]) dX1_windAt_3 rfl rfl rfl (by decide) rfl ?_
  exact aw_le' (hJ_4 v1 0 0 D h) ⟨rfl, ⟨rfl, ⟨rfl, ⟨rfl, trivial⟩⟩⟩⟩
theorem dX1_daysWon_0 : decode cX1_daysWon 0 = .ok (.aload_n 0, 1) := by decide +kernel
theorem dX1_daysWon_1 : decode cX1_daysWon 1 = .ok (.getfield 33, 3) := by decide +kernel
theorem dX1_daysWon_4 : decode cX1_daysWon 4 = .ok (.invokevirtual 139, 3) := by decide +kernel
theorem dX1_daysWon_7 : decode cX1_daysWon 7 = .ok (.istore 4, 2) := by decide +kernel
theorem dX1_daysWon_9 : decode cX1_daysWon 9 = .ok (.iconst 0, 1) := by decide +kernel
theorem dX1_daysWon_10 : decode cX1_daysWon 10 = .ok (.istore 5, 2) := by decide +kernel
theorem dX1_daysWon_12 : decode cX1_daysWon 12 = .ok (.iload 5, 2) := by decide +kernel
theorem dX1_daysWon_14 : decode cX1_daysWon 14 = .ok (.iconst 5, 1) := by decide +kernel
theorem dX1_daysWon_15 : decode cX1_daysWon 15 = .ok (.if_icmp .ge 44, 3) := by decide +kernel
theorem dX1_daysWon_18 : decode cX1_daysWon 18 = .ok (.iload 5, 2) := by decide +kernel
theorem dX1_daysWon_20 : decode cX1_daysWon 20 = .ok (.ifCond .eq 16, 3) := by decide +kernel
theorem dX1_daysWon_23 : decode cX1_daysWon 23 = .ok (.aload_n 0, 1) := by decide +kernel
theorem dX1_daysWon_24 : decode cX1_daysWon 24 = .ok (.getfield 33, 3) := by decide +kernel
theorem dX1_daysWon_27 : decode cX1_daysWon 27 = .ok (.getfield 83, 3) := by decide +kernel
theorem dX1_daysWon_30 : decode cX1_daysWon 30 = .ok (.iload 5, 2) := by decide +kernel
theorem dX1_daysWon_32 : decode cX1_daysWon 32 = .ok (.iaload, 1) := by decide +kernel
theorem dX1_daysWon_33 : decode cX1_daysWon 33 = .ok (.ifCond .le 20, 3) := by decide +kernel
theorem dX1_daysWon_36 : decode cX1_daysWon 36 = .ok (.aload_n 0, 1) := by decide +kernel
theorem dX1_daysWon_37 : decode cX1_daysWon 37 = .ok (.iload 5, 2) := by decide +kernel
theorem dX1_daysWon_39 : decode cX1_daysWon 39 = .ok (.invokevirtual 142, 3) := by decide +kernel
theorem dX1_daysWon_42 : decode cX1_daysWon 42 = .ok (.aload_n 0, 1) := by decide +kernel
theorem dX1_daysWon_43 : decode cX1_daysWon 43 = .ok (.getfield 30, 3) := by decide +kernel
theorem dX1_daysWon_46 : decode cX1_daysWon 46 = .ok (.iload 5, 2) := by decide +kernel
theorem dX1_daysWon_48 : decode cX1_daysWon 48 = .ok (.aload_n 0, 1) := by decide +kernel
theorem dX1_daysWon_49 : decode cX1_daysWon 49 = .ok (.invokevirtual 130, 3) := by decide +kernel
theorem dX1_daysWon_52 : decode cX1_daysWon 52 = .ok (.iastore, 1) := by decide +kernel
theorem dX1_daysWon_53 : decode cX1_daysWon 53 = .ok (.iinc 5 1, 3) := by decide +kernel
theorem dX1_daysWon_56 : decode cX1_daysWon 56 = .ok (.goto (-44), 3) := by decide +kernel
theorem dX1_daysWon_59 : decode cX1_daysWon 59 = .ok (.iload_n 2, 1) := by decide +kernel
theorem dX1_daysWon_60 : decode cX1_daysWon 60 = .ok (.istore 5, 2) := by decide +kernel
theorem dX1_daysWon_62 : decode cX1_daysWon 62 = .ok (.iconst 0, 1) := by decide +kernel
theorem dX1_daysWon_63 : decode cX1_daysWon 63 = .ok (.istore 6, 2) := by decide +kernel
theorem dX1_daysWon_65 : decode cX1_daysWon 65 = .ok (.iconst 0, 1) := by decide +kernel
theorem dX1_daysWon_66 : decode cX1_daysWon 66 = .ok (.istore 7, 2) := by decide +kernel
theorem dX1_daysWon_68 : decode cX1_daysWon 68 = .ok (.iload 7, 2) := by decide +kernel
theorem dX1_daysWon_70 : decode cX1_daysWon 70 = .ok (.iload_n 3, 1) := by decide +kernel
theorem dX1_daysWon_71 : decode cX1_daysWon 71 = .ok (.if_icmp .ge 60, 3) := by decide +kernel
theorem dX1_daysWon_74 : decode cX1_daysWon 74 = .ok (.iconst 0, 1) := by decide +kernel
theorem dX1_daysWon_75 : decode cX1_daysWon 75 = .ok (.istore 8, 2) := by decide +kernel
theorem dX1_daysWon_77 : decode cX1_daysWon 77 = .ok (.iload 4, 2) := by decide +kernel
theorem dX1_daysWon_79 : decode cX1_daysWon 79 = .ok (.ifCond .le 32, 3) := by decide +kernel
theorem dX1_daysWon_82 : decode cX1_daysWon 82 = .ok (.iload 5, 2) := by decide +kernel
theorem dX1_daysWon_84 : decode cX1_daysWon 84 = .ok (.ldc 146, 2) := by decide +kernel
theorem dX1_daysWon_86 : decode cX1_daysWon 86 = .ok (.imul, 1) := by decide +kernel
theorem dX1_daysWon_87 : decode cX1_daysWon 87 = .ok (.sipush 12345, 3) := by decide +kernel
theorem dX1_daysWon_90 : decode cX1_daysWon 90 = .ok (.iadd, 1) := by decide +kernel
theorem dX1_daysWon_91 : decode cX1_daysWon 91 = .ok (.istore 5, 2) := by decide +kernel
theorem dX1_daysWon_93 : decode cX1_daysWon 93 = .ok (.aload_n 0, 1) := by decide +kernel
theorem dX1_daysWon_94 : decode cX1_daysWon 94 = .ok (.iload 5, 2) := by decide +kernel
theorem dX1_daysWon_96 : decode cX1_daysWon 96 = .ok (.bipush 16, 2) := by decide +kernel
theorem dX1_daysWon_98 : decode cX1_daysWon 98 = .ok (.iushr, 1) := by decide +kernel
theorem dX1_daysWon_99 : decode cX1_daysWon 99 = .ok (.sipush 32767, 3) := by decide +kernel
theorem dX1_daysWon_102 : decode cX1_daysWon 102 = .ok (.iand, 1) := by decide +kernel
theorem dX1_daysWon_103 : decode cX1_daysWon 103 = .ok (.iload 4, 2) := by decide +kernel
theorem dX1_daysWon_105 : decode cX1_daysWon 105 = .ok (.irem, 1) := by decide +kernel
theorem dX1_daysWon_106 : decode cX1_daysWon 106 = .ok (.invokevirtual 147, 3) := by decide +kernel
theorem dX1_daysWon_109 : decode cX1_daysWon 109 = .ok (.istore 8, 2) := by decide +kernel
theorem dX1_daysWon_111 : decode cX1_daysWon 111 = .ok (.aload_n 0, 1) := by decide +kernel
theorem dX1_daysWon_112 : decode cX1_daysWon 112 = .ok (.getfield 30, 3) := by decide +kernel
theorem dX1_daysWon_115 : decode cX1_daysWon 115 = .ok (.iload 8, 2) := by decide +kernel
theorem dX1_daysWon_117 : decode cX1_daysWon 117 = .ok (.iaload, 1) := by decide +kernel
theorem dX1_daysWon_118 : decode cX1_daysWon 118 = .ok (.iload_n 1, 1) := by decide +kernel
theorem dX1_daysWon_119 : decode cX1_daysWon 119 = .ok (.if_icmp .ne 6, 3) := by decide +kernel
theorem dX1_daysWon_122 : decode cX1_daysWon 122 = .ok (.iinc 6 1, 3) := by decide +kernel
theorem dX1_daysWon_125 : decode cX1_daysWon 125 = .ok (.iinc 7 1, 3) := by decide +kernel
theorem dX1_daysWon_128 : decode cX1_daysWon 128 = .ok (.goto (-60), 3) := by decide +kernel
theorem dX1_daysWon_131 : decode cX1_daysWon 131 = .ok (.iload 6, 2) := by decide +kernel
theorem dX1_daysWon_133 : decode cX1_daysWon 133 = .ok (.ireturn, 1) := by decide +kernel
def J_X1_daysWon_131 (v6 : Int32) (D : aD) : Option (Int32 × aD) :=
  some (v6, D)
def J_X1_daysWon_111 (v1 : Int32) (v3 : Int32) (v4 : Int32) (v5 : Int32) (v6 : Int32) (v7 : Int32) (v8 : Int32) (D : aD) : Option ((Int32 × Int32 × Int32 × aD) ⊕ ((Int32 × aD))) :=
  aGd (aIn v8 5) (if gI D 67 v8.toNatClampNeg ≠ v1 then (aLet (v7 + 1) (fun v7_4 => some (.inl (v5, v6, v7_4, D)))) else (aLet (v6 + 1) (fun v6_5 => aLet (v7 + 1) (fun v7_6 => some (.inl (v5, v6_5, v7_6, D))))))
def B_X1_daysWon_68 (v1 : Int32) (v3 : Int32) (v4 : Int32) (v5 : Int32) (v6 : Int32) (v7 : Int32) (D : aD) : Option ((Int32 × Int32 × Int32 × aD) ⊕ ((Int32 × aD))) :=
  if v3 ≤ v7 then (some (.inr (v6, D))) else (if v4 ≤ 0 then (J_X1_daysWon_111 v1 v3 v4 v5 v6 v7 0 D) else (aLet ((v5 * 1103515245) + 12345) (fun v5_7 => aGd (aNz v4) (aBi (f_X1_windAt ((((v5_7.toUInt32 >>> ((16 : Int32).toUInt32 &&& Int32.toUInt32 31)).toInt32) &&& 32767) - (((v5_7.toUInt32 >>> ((16 : Int32).toUInt32 &&& Int32.toUInt32 31)).toInt32) &&& 32767) / v4 * v4) D) (fun y_9 D_10 => J_X1_daysWon_111 v1 v3 v4 v5_7 v6 v7 y_9 D_10)))))
def J_X1_daysWon_68 (v1 : Int32) (v3 : Int32) (v4 : Int32) (v5 : Int32) (v6 : Int32) (v7 : Int32) (D : aD) : Option (Int32 × aD) :=
  (aLp (fun s => B_X1_daysWon_68 v1 v3 v4 s.1 s.2.1 s.2.2.1 s.2.2.2) (v5, v6, v7, D)).bind (fun r => J_X1_daysWon_131 (r.1) r.2)
def J_X1_daysWon_59 (v1 : Int32) (v2 : Int32) (v3 : Int32) (v4 : Int32) (D : aD) : Option (Int32 × aD) :=
  J_X1_daysWon_68 v1 v3 v4 v2 0 0 D
def J_X1_daysWon_36 (v1 : Int32) (v2 : Int32) (v3 : Int32) (v4 : Int32) (v5 : Int32) (D : aD) : Option ((Int32 × aD) ⊕ ((aD))) :=
  (f_X1_addUp v5 D).bind (fun D_11 => aBi (f_X1_first D_11) (fun y_12 D_13 => aGd (aIn v5 5) (aLet (pI D_13 67 v5.toNatClampNeg y_12) (fun D_15 => aLet (v5 + 1) (fun v5_16 => some (.inl (v5_16, D_15)))))))
def B_X1_daysWon_12 (v1 : Int32) (v2 : Int32) (v3 : Int32) (v4 : Int32) (v5 : Int32) (D : aD) : Option ((Int32 × aD) ⊕ ((aD))) :=
  if 5 ≤ v5 then (some (.inr D)) else (if v5 = 0 then (J_X1_daysWon_36 v1 v2 v3 v4 v5 D) else (aGd (aIn v5 5) (if gI D 14 v5.toNatClampNeg ≤ 0 then (aLet (v5 + 1) (fun v5_18 => some (.inl (v5_18, D)))) else (J_X1_daysWon_36 v1 v2 v3 v4 v5 D))))
def J_X1_daysWon_12 (v1 : Int32) (v2 : Int32) (v3 : Int32) (v4 : Int32) (v5 : Int32) (D : aD) : Option (Int32 × aD) :=
  (aLp (fun s => B_X1_daysWon_12 v1 v2 v3 v4 s.1 s.2) (v5, D)).bind (fun r => J_X1_daysWon_59 v1 v2 v3 v4 r)
def f_X1_daysWon (v1 : Int32) (v2 : Int32) (v3 : Int32) (D : aD) : Option (Int32 × aD) :=
  aBi (f_X6_allWeights D) (fun y_1 D_2 => J_X1_daysWon_12 v1 v2 v3 y_1 0 D_2)
set_option maxRecDepth 100000 in
set_option maxHeartbeats 800000 in
theorem c_X1_daysWon {G : aG} (hG : gOK G) {shp : List aSh} (hS : aShp shp) {fr : Option Nat} {v1 : Int32} {v2 : Int32} {v3 : Int32} {D : aD} {K : Int32 → aD → Prop} (h : Ok2 (f_X1_daysWon v1 v2 v3 D) K) : AC G (aRm 4 0 0) M_X1_daysWon [.ref 60, .int v1, .int v2, .int v3] fr shp D (aQi shp K) := by
  replace h := Ok2.ok h
  unfold f_X1_daysWon at h
  refine AC.of (al := [some (.ref 60), some (.int v1), some (.int v2), some (.int v3), none, none, none, none, none]) (r := 5) (by decide) (Nat.le_of_ble_eq_true rfl) rfl ?_
  have hJ_131 : ∀ (v6 : Int32) (D : aD), Ok (J_X1_daysWon_131 v6 D) (fun r => K r.1 r.2) → AW G (aRm 4 0 0) M_X1_daysWon fr 0 0 131 [none, none, none, none, none, none, some (.int v6), none, none] [] shp D (aQi shp K) := by
    intro v6 D h
    unfold J_X1_daysWon_131 at h
    refine aw_iload (n := 133) (i := 6) dX1_daysWon_131 rfl rfl ?_
    exact aw_iret rfl (by decide) (by decide) dX1_daysWon_133 ⟨_, rfl, rfl, (Ok.dn h :)⟩
  have hJ_68 : ∀ (v1 : Int32) (v3 : Int32) (v4 : Int32) (v5 : Int32) (v6 : Int32) (v7 : Int32) (D : aD), Ok (J_X1_daysWon_68 v1 v3 v4 v5 v6 v7 D) (fun r => K r.1 r.2) → AW G (aRm 4 0 0) M_X1_daysWon fr 0 0 68 [some (.ref 60), some (.int v1), none, some (.int v3), some (.int v4), some (.int v5), some (.int v6), some (.int v7), none] [] shp D (aQi shp K) := by
    intro v1 v3 v4 v5 v6 v7 D h
    unfold J_X1_daysWon_68 at h
    refine Ok.lp (P := fun s => AW G (aRm 4 0 0) M_X1_daysWon fr 0 0 68 [some (.ref 60), some (.int v1), none, some (.int v3), some (.int v4), some (.int (s.1)), some (.int (s.2.1)), some (.int (s.2.2.1)), none] [] shp s.2.2.2 (aQi shp K)) (fun s Kb68 hL68 hR68 h => ?_) (v5, v6, v7, D) (Ok.bind h)
    obtain ⟨v5, v6, v7, D⟩ := s
    replace h : Ok (B_X1_daysWon_68 v1 v3 v4 v5 v6 v7 D) Kb68 := h
    unfold B_X1_daysWon_68 at h
    have hJ_111 : ∀ (v5 : Int32) (v6 : Int32) (v7 : Int32) (v8 : Int32) (D : aD), Ok (J_X1_daysWon_111 v1 v3 v4 v5 v6 v7 v8 D) Kb68 → AW G (aRm 4 0 0) M_X1_daysWon fr 0 0 111 [some (.ref 60), some (.int v1), none, some (.int v3), some (.int v4), some (.int v5), some (.int v6), some (.int v7), some (.int v8)] [] shp D (aQi shp K) := by
      intro v5 v6 v7 v8 D h
      unfold J_X1_daysWon_111 at h
      refine aw_aload_n (n := 112) (i := 0) dX1_daysWon_111 rfl rfl rfl ?_
      refine aw_getR (n := 115) (j := 10) (r := 67) hG.1 fl_RX1_30 (sF_60 hS) rfl dX1_daysWon_112 rfl ?_
      refine aw_iload (n := 117) (i := 8) dX1_daysWon_115 rfl rfl ?_
      obtain ⟨g_3, h⟩ := Ok.gd h
      refine aw_iaload (n := 118) hG.1 (sF_67 hS) (aIn_in g_3) dX1_daysWon_117 rfl ?_
      refine aw_iload_n (n := 119) (i := 1) dX1_daysWon_118 rfl rfl rfl ?_
      refine aw_icmp_ne (n := 122) (tgt := 125) dX1_daysWon_119 rfl (by decide) (fun c => ?_) (fun c => ?_)
      · replace h := Ok.ift h c
        obtain ⟨v7_4, e_v7_4, h⟩ := Ok.let_ h
        refine aw_iinc (n := 128) (al' := [some (.ref 60), some (.int v1), none, some (.int v3), some (.int v4), some (.int v5), some (.int v6), some (.int v7_4), some (.int v8)]) dX1_daysWon_125 rfl rfl e_v7_4 (by decide) rfl ?_
        refine aw_goto (tgt := 68) dX1_daysWon_128 (by decide) ?_
        exact aw_le' (hL68 (v5, v6, v7_4, D) (Ok.dn h :)) ⟨rfl, ⟨rfl, ⟨rfl, ⟨rfl, ⟨rfl, ⟨rfl, ⟨rfl, trivial⟩⟩⟩⟩⟩⟩⟩
      · replace h := Ok.iffn h c
        obtain ⟨v6_5, e_v6_5, h⟩ := Ok.let_ h
        refine aw_iinc (n := 125) (al' := [some (.ref 60), some (.int v1), none, some (.int v3), some (.int v4), some (.int v5), some (.int v6_5), some (.int v7), some (.int v8)]) dX1_daysWon_122 rfl rfl e_v6_5 (by decide) rfl ?_
        obtain ⟨v7_6, e_v7_6, h⟩ := Ok.let_ h
        refine aw_iinc (n := 128) (al' := [some (.ref 60), some (.int v1), none, some (.int v3), some (.int v4), some (.int v5), some (.int v6_5), some (.int v7_6), some (.int v8)]) dX1_daysWon_125 rfl rfl e_v7_6 (by decide) rfl ?_
        refine aw_goto (tgt := 68) dX1_daysWon_128 (by decide) ?_
        exact aw_le' (hL68 (v5, v6_5, v7_6, D) (Ok.dn h :)) ⟨rfl, ⟨rfl, ⟨rfl, ⟨rfl, ⟨rfl, ⟨rfl, ⟨rfl, trivial⟩⟩⟩⟩⟩⟩⟩
    refine aw_iload (n := 70) (i := 7) dX1_daysWon_68 rfl rfl ?_
    refine aw_iload_n (n := 71) (i := 3) dX1_daysWon_70 rfl rfl rfl ?_
    refine aw_icmp_ge (n := 74) (tgt := 131) dX1_daysWon_71 rfl (by decide) (fun c => ?_) (fun c => ?_)
    · replace h := Ok.ift h c
      exact aw_le' (hJ_131 v6 D (hR68 (v6, D) (Ok.dn h :))) ⟨rfl, trivial⟩
    · replace h := Ok.iff h c
      refine aw_iconst (n := 75) (v := 0) dX1_daysWon_74 rfl (by decide) ?_
      refine aw_istore (n := 77) (i := 8) (al' := [some (.ref 60), some (.int v1), none, some (.int v3), some (.int v4), some (.int v5), some (.int v6), some (.int v7), some (.int 0)]) dX1_daysWon_75 rfl rfl (by decide) rfl ?_
      refine aw_iload (n := 79) (i := 4) dX1_daysWon_77 rfl rfl ?_
      refine aw_if_le (n := 82) (tgt := 111) dX1_daysWon_79 rfl (by decide) (fun c => ?_) (fun c => ?_)
      · replace h := Ok.ift h c
        exact aw_le' (hJ_111 v5 v6 v7 0 D h) ⟨rfl, ⟨rfl, ⟨rfl, ⟨rfl, ⟨rfl, ⟨rfl, ⟨rfl, ⟨rfl, trivial⟩⟩⟩⟩⟩⟩⟩⟩
      · replace h := Ok.iff h c
        refine aw_iload (n := 84) (i := 5) dX1_daysWon_82 rfl rfl ?_
        refine aw_ldcI (M := M_X1_daysWon) (n := 86) (v := 1103515245) dX1_daysWon_84 rfl kc_RX1_146 ?_
        refine aw_imul (n := 87) dX1_daysWon_86 rfl ?_
        refine aw_sipush (n := 90) (v := 12345) dX1_daysWon_87 rfl (by decide) ?_
        refine aw_iadd (n := 91) dX1_daysWon_90 rfl ?_
        obtain ⟨v5_7, e_v5_7, h⟩ := Ok.let_ h
        refine aw_istore (n := 93) (i := 5) (al' := [some (.ref 60), some (.int v1), none, some (.int v3), some (.int v4), some (.int v5_7), some (.int v6), some (.int v7), some (.int 0)]) dX1_daysWon_91 rfl e_v5_7 (by decide) rfl ?_
        refine aw_aload_n (n := 94) (i := 0) dX1_daysWon_93 rfl rfl rfl ?_
        refine aw_iload (n := 96) (i := 5) dX1_daysWon_94 rfl rfl ?_
        refine aw_bipush (n := 98) (v := 16) dX1_daysWon_96 rfl (by decide) ?_
        refine aw_iushr (n := 99) dX1_daysWon_98 rfl ?_
        refine aw_sipush (n := 102) (v := 32767) dX1_daysWon_99 rfl (by decide) ?_
        refine aw_iand (n := 103) dX1_daysWon_102 rfl ?_
        refine aw_iload (n := 105) (i := 4) dX1_daysWon_103 rfl rfl ?_
        obtain ⟨g_8, h⟩ := Ok.gd h
        refine aw_irem (n := 106) dX1_daysWon_105 rfl (aNz_ne g_8) ?_
        refine aw_cVi (M := M_X1_daysWon) (n := 109) (As := [.int ((((v5_7.toUInt32 >>> ((16 : Int32).toUInt32 &&& Int32.toUInt32 31)).toInt32) &&& 32767) - (((v5_7.toUInt32 >>> ((16 : Int32).toUInt32 &&& Int32.toUInt32 31)).toInt32) &&& 32767) / v4 * v4)]) (rest := []) hG.1 lk_RX1_147 rfl rfl (sF_60 hS) (c_X1_windAt hG hS (h := Ok.bi h)) (by decide) (Nat.le_of_ble_eq_true rfl) (by decide) (by decide) dX1_daysWon_106 rfl (fun y_9 D_10 h => ?_)
        refine aw_istore (n := 111) (i := 8) (al' := [some (.ref 60), some (.int v1), none, some (.int v3), some (.int v4), some (.int v5_7), some (.int v6), some (.int v7), some (.int y_9)]) dX1_daysWon_109 rfl rfl (by decide) rfl ?_
        exact aw_le' (hJ_111 v5_7 v6 v7 y_9 D_10 h) ⟨rfl, ⟨rfl, ⟨rfl, ⟨rfl, ⟨rfl, ⟨rfl, ⟨rfl, ⟨rfl, trivial⟩⟩⟩⟩⟩⟩⟩⟩
  have hJ_59 : ∀ (v1 : Int32) (v2 : Int32) (v3 : Int32) (v4 : Int32) (D : aD), Ok (J_X1_daysWon_59 v1 v2 v3 v4 D) (fun r => K r.1 r.2) → AW G (aRm 4 0 0) M_X1_daysWon fr 0 0 59 [some (.ref 60), some (.int v1), some (.int v2), some (.int v3), some (.int v4), none, none, none, none] [] shp D (aQi shp K) := by
    intro v1 v2 v3 v4 D h
    unfold J_X1_daysWon_59 at h
    refine aw_iload_n (n := 60) (i := 2) dX1_daysWon_59 rfl rfl rfl ?_
    refine aw_istore (n := 62) (i := 5) (al' := [some (.ref 60), some (.int v1), some (.int v2), some (.int v3), some (.int v4), some (.int v2), none, none, none]) dX1_daysWon_60 rfl rfl (by decide) rfl ?_
    refine aw_iconst (n := 63) (v := 0) dX1_daysWon_62 rfl (by decide) ?_
    refine aw_istore (n := 65) (i := 6) (al' := [some (.ref 60), some (.int v1), some (.int v2), some (.int v3), some (.int v4), some (.int v2), some (.int 0), none, none]) dX1_daysWon_63 rfl rfl (by decide) rfl ?_
    refine aw_iconst (n := 66) (v := 0) dX1_daysWon_65 rfl (by decide) ?_
    refine aw_istore (n := 68) (i := 7) (al' := [some (.ref 60), some (.int v1), some (.int v2), some (.int v3), some (.int v4), some (.int v2), some (.int 0), some (.int 0), none]) dX1_daysWon_66 rfl rfl (by decide) rfl ?_
    exact aw_le' (hJ_68 v1 v3 v4 v2 0 0 D h) ⟨rfl, ⟨rfl, ⟨rfl, ⟨rfl, ⟨rfl, ⟨rfl, ⟨rfl, trivial⟩⟩⟩⟩⟩⟩⟩
  have hJ_12 : ∀ (v1 : Int32) (v2 : Int32) (v3 : Int32) (v4 : Int32) (v5 : Int32) (D : aD), Ok (J_X1_daysWon_12 v1 v2 v3 v4 v5 D) (fun r => K r.1 r.2) → AW G (aRm 4 0 0) M_X1_daysWon fr 0 0 12 [some (.ref 60), some (.int v1), some (.int v2), some (.int v3), some (.int v4), some (.int v5), none, none, none] [] shp D (aQi shp K) := by
    intro v1 v2 v3 v4 v5 D h
    unfold J_X1_daysWon_12 at h
    refine Ok.lp (P := fun s => AW G (aRm 4 0 0) M_X1_daysWon fr 0 0 12 [some (.ref 60), some (.int v1), some (.int v2), some (.int v3), some (.int v4), some (.int (s.1)), none, none, none] [] shp s.2 (aQi shp K)) (fun s Kb12 hL12 hR12 h => ?_) (v5, D) (Ok.bind h)
    obtain ⟨v5, D⟩ := s
    replace h : Ok (B_X1_daysWon_12 v1 v2 v3 v4 v5 D) Kb12 := h
    unfold B_X1_daysWon_12 at h
    have hJ_36 : ∀ (v5 : Int32) (D : aD), Ok (J_X1_daysWon_36 v1 v2 v3 v4 v5 D) Kb12 → AW G (aRm 4 0 0) M_X1_daysWon fr 0 0 36 [some (.ref 60), some (.int v1), some (.int v2), some (.int v3), some (.int v4), some (.int v5), none, none, none] [] shp D (aQi shp K) := by
      intro v5 D h
      unfold J_X1_daysWon_36 at h
      refine aw_aload_n (n := 37) (i := 0) dX1_daysWon_36 rfl rfl rfl ?_
      refine aw_iload (n := 39) (i := 5) dX1_daysWon_37 rfl rfl ?_
      refine aw_cVv (M := M_X1_daysWon) (n := 42) (As := [.int v5]) (rest := []) hG.1 lk_RX1_142 rfl rfl (sF_60 hS) (c_X1_addUp hG hS (h := Ok.bind h)) (by decide) (Nat.le_of_ble_eq_true rfl) (by decide) (by decide) dX1_daysWon_39 rfl (fun D_11 h => ?_)
      refine aw_aload_n (n := 43) (i := 0) dX1_daysWon_42 rfl rfl rfl ?_
      refine aw_getR (n := 46) (j := 10) (r := 67) hG.1 fl_RX1_30 (sF_60 hS) rfl dX1_daysWon_43 rfl ?_
      refine aw_iload (n := 48) (i := 5) dX1_daysWon_46 rfl rfl ?_
      refine aw_aload_n (n := 49) (i := 0) dX1_daysWon_48 rfl rfl rfl ?_
      refine aw_cVi (M := M_X1_daysWon) (n := 52) (As := []) (rest := [.int v5, .ref 67]) hG.1 lk_RX1_130 rfl rfl (sF_60 hS) (c_X1_first hG hS (h := Ok.bi h)) (by decide) (Nat.le_of_ble_eq_true rfl) (by decide) (by decide) dX1_daysWon_49 rfl (fun y_12 D_13 h => ?_)
      obtain ⟨g_14, h⟩ := Ok.gd h
      obtain ⟨D_15, e_D_15, h⟩ := Ok.let_ h
      refine aw_iastore (n := 53) hG.1 (sF_67 hS) (aIn_in g_14) e_D_15 dX1_daysWon_52 rfl ?_
      obtain ⟨v5_16, e_v5_16, h⟩ := Ok.let_ h
      refine aw_iinc (n := 56) (al' := [some (.ref 60), some (.int v1), some (.int v2), some (.int v3), some (.int v4), some (.int v5_16), none, none, none]) dX1_daysWon_53 rfl rfl e_v5_16 (by decide) rfl ?_
      refine aw_goto (tgt := 12) dX1_daysWon_56 (by decide) ?_
      exact aw_le' (hL12 (v5_16, D_15) (Ok.dn h :)) ⟨rfl, ⟨rfl, ⟨rfl, ⟨rfl, ⟨rfl, ⟨rfl, trivial⟩⟩⟩⟩⟩⟩
    refine aw_iload (n := 14) (i := 5) dX1_daysWon_12 rfl rfl ?_
    refine aw_iconst (n := 15) (v := 5) dX1_daysWon_14 rfl (by decide) ?_
    refine aw_icmp_ge (n := 18) (tgt := 59) dX1_daysWon_15 rfl (by decide) (fun c => ?_) (fun c => ?_)
    · replace h := Ok.ift h c
      exact aw_le' (hJ_59 v1 v2 v3 v4 D (hR12 D (Ok.dn h :))) ⟨rfl, ⟨rfl, ⟨rfl, ⟨rfl, ⟨rfl, trivial⟩⟩⟩⟩⟩
    · replace h := Ok.iff h c
      refine aw_iload (n := 20) (i := 5) dX1_daysWon_18 rfl rfl ?_
      refine aw_if_eq (n := 23) (tgt := 36) dX1_daysWon_20 rfl (by decide) (fun c => ?_) (fun c => ?_)
      · replace h := Ok.ift h c
        exact aw_le' (hJ_36 v5 D h) ⟨rfl, ⟨rfl, ⟨rfl, ⟨rfl, ⟨rfl, ⟨rfl, trivial⟩⟩⟩⟩⟩⟩
      · replace h := Ok.iff h c
        refine aw_aload_n (n := 24) (i := 0) dX1_daysWon_23 rfl rfl rfl ?_
        refine aw_getR (n := 27) (j := 0) (r := 2) hG.1 fl_RX1_33 (sF_60 hS) rfl dX1_daysWon_24 rfl ?_
        refine aw_getR (n := 30) (j := 16) (r := 14) hG.1 fl_RX1_83 (sF_2 hS) rfl dX1_daysWon_27 rfl ?_
        refine aw_iload (n := 32) (i := 5) dX1_daysWon_30 rfl rfl ?_
        obtain ⟨g_17, h⟩ := Ok.gd h
        refine aw_iaload (n := 33) hG.1 (sF_14 hS) (aIn_in g_17) dX1_daysWon_32 rfl ?_
        refine aw_if_le (n := 36) (tgt := 53) dX1_daysWon_33 rfl (by decide) (fun c => ?_) (fun c => ?_)
        · replace h := Ok.ift h c
          obtain ⟨v5_18, e_v5_18, h⟩ := Ok.let_ h
          refine aw_iinc (n := 56) (al' := [some (.ref 60), some (.int v1), some (.int v2), some (.int v3), some (.int v4), some (.int v5_18), none, none, none]) dX1_daysWon_53 rfl rfl e_v5_18 (by decide) rfl ?_
          refine aw_goto (tgt := 12) dX1_daysWon_56 (by decide) ?_
          exact aw_le' (hL12 (v5_18, D) (Ok.dn h :)) ⟨rfl, ⟨rfl, ⟨rfl, ⟨rfl, ⟨rfl, ⟨rfl, trivial⟩⟩⟩⟩⟩⟩
        · replace h := Ok.iff h c
          exact aw_le' (hJ_36 v5 D h) ⟨rfl, ⟨rfl, ⟨rfl, ⟨rfl, ⟨rfl, ⟨rfl, trivial⟩⟩⟩⟩⟩⟩
  refine aw_aload_n (n := 1) (i := 0) dX1_daysWon_0 rfl rfl rfl ?_
  refine aw_getR (n := 4) (j := 0) (r := 2) hG.1 fl_RX1_33 (sF_60 hS) rfl dX1_daysWon_1 rfl ?_
  refine aw_cVi (M := M_X1_daysWon) (n := 7) (As := []) (rest := []) hG.1 lk_RX1_139 rfl rfl (sF_2 hS) (c_X6_allWeights hG hS (h := Ok.bi h)) (by decide) (Nat.le_of_ble_eq_true rfl) (by decide) (by decide) dX1_daysWon_4 rfl (fun y_1 D_2 h => ?_)
  refine aw_istore (n := 9) (i := 4) (al' := [some (.ref 60), some (.int v1), some (.int v2), some (.int v3), some (.int y_1), none, none, none, none]) dX1_daysWon_7 rfl rfl (by decide) rfl ?_
  refine aw_iconst (n := 10) (v := 0) dX1_daysWon_9 rfl (by decide) ?_
  refine aw_istore (n := 12) (i := 5) (al' := [some (.ref 60), some (.int v1), some (.int v2), some (.int v3), some (.int y_1), some (.int 0), none, none, none]) dX1_daysWon_10 rfl rfl (by decide) rfl ?_
  exact aw_le' (hJ_12 v1 v2 v3 y_1 0 D_2 h) ⟨rfl, ⟨rfl, ⟨rfl, ⟨rfl, ⟨rfl, ⟨rfl, trivial⟩⟩⟩⟩⟩⟩
