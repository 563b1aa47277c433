theorem dX12_thrown_0 : decode cX12_thrown 0 = .ok (.aload_n 0, 1) := by decide +kernel
theorem dX12_thrown_1 : decode cX12_thrown 1 = .ok (.getfield 157, 3) := by decide +kernel
theorem dX12_thrown_4 : decode cX12_thrown 4 = .ok (.ireturn, 1) := by decide +kernel
def f_X12_thrown (D : aD) : Option (Int32 × aD) :=
  some (gI D 88 2, D)
set_option maxRecDepth 100000 in
set_option maxHeartbeats 800000 in
theorem c_X12_thrown {G : aG} (hG : gOK G) {shp : List aSh} (hS : aShp shp) {fr : Option Nat} {D : aD} {K : Int32 → aD → Prop} (h : Ok2 (f_X12_thrown D) K) : AC G (aRm 1 0 0) M_X12_thrown [.ref 88] fr shp D (aQi shp K) := by
  replace h := Ok2.ok h
  unfold f_X12_thrown at h
  refine AC.of (al := [some (.ref 88)]) (r := 0) (by decide) (Nat.le_of_ble_eq_true rfl) rfl ?_
  refine aw_aload_n (n := 1) (i := 0) dX12_thrown_0 rfl rfl rfl ?_
  refine aw_getI (n := 4) (j := 2) hG.1 fl_RX12_157 (sF_88 hS) rfl dX12_thrown_1 rfl ?_
  exact aw_iret rfl (by decide) (by decide) dX12_thrown_4 ⟨_, rfl, rfl, (Ok.dn h :)⟩
theorem dX12_fail_0 : decode cX12_fail 0 = .ok (.aload_n 0, 1) := by decide +kernel
theorem dX12_fail_1 : decode cX12_fail 1 = .ok (.iload_n 1, 1) := by decide +kernel
theorem dX12_fail_2 : decode cX12_fail 2 = .ok (.putfield 157, 3) := by decide +kernel
theorem dX12_fail_5 : decode cX12_fail 5 = .ok (.iconst 0, 1) := by decide +kernel
theorem dX12_fail_6 : decode cX12_fail 6 = .ok (.ireturn, 1) := by decide +kernel
def f_X12_fail (v1 : Int32) (D : aD) : Option (Int32 × aD) :=
  aLet (pI D 88 2 v1) (fun D_1 => some (0, D_1))
set_option maxRecDepth 100000 in
set_option maxHeartbeats 800000 in
theorem c_X12_fail {G : aG} (hG : gOK G) {shp : List aSh} (hS : aShp shp) {fr : Option Nat} {v1 : Int32} {D : aD} {K : Int32 → aD → Prop} (h : Ok2 (f_X12_fail v1 D) K) : AC G (aRm 1 0 0) M_X12_fail [.ref 88, .int v1] fr shp D (aQi shp K) := by
  replace h := Ok2.ok h
  unfold f_X12_fail at h
  refine AC.of (al := [some (.ref 88), some (.int v1)]) (r := 0) (by decide) (Nat.le_of_ble_eq_true rfl) rfl ?_
  refine aw_aload_n (n := 1) (i := 0) dX12_fail_0 rfl rfl rfl ?_
  refine aw_iload_n (n := 2) (i := 1) dX12_fail_1 rfl rfl rfl ?_
  obtain ⟨D_1, e_D_1, h⟩ := Ok.let_ h
  refine aw_putI (n := 5) (j := 2) hG.1 fl_RX12_157 (sF_88 hS) rfl e_D_1 dX12_fail_2 rfl ?_
  refine aw_iconst (n := 6) (v := 0) dX12_fail_5 rfl (by decide) ?_
  exact aw_iret rfl (by decide) (by decide) dX12_fail_6 ⟨_, rfl, rfl, (Ok.dn h :)⟩
theorem dX12_isIn_0 : decode cX12_isIn 0 = .ok (.iload_n 0, 1) := by decide +kernel
theorem dX12_isIn_1 : decode cX12_isIn 1 = .ok (.iload_n 1, 1) := by decide +kernel
theorem dX12_isIn_2 : decode cX12_isIn 2 = .ok (.if_icmp .lt 12, 3) := by decide +kernel
theorem dX12_isIn_5 : decode cX12_isIn 5 = .ok (.iload_n 0, 1) := by decide +kernel
theorem dX12_isIn_6 : decode cX12_isIn 6 = .ok (.iload_n 2, 1) := by decide +kernel
theorem dX12_isIn_7 : decode cX12_isIn 7 = .ok (.if_icmp .gt 7, 3) := by decide +kernel
theorem dX12_isIn_10 : decode cX12_isIn 10 = .ok (.iconst 1, 1) := by decide +kernel
theorem dX12_isIn_11 : decode cX12_isIn 11 = .ok (.goto 4, 3) := by decide +kernel
theorem dX12_isIn_14 : decode cX12_isIn 14 = .ok (.iconst 0, 1) := by decide +kernel
theorem dX12_isIn_15 : decode cX12_isIn 15 = .ok (.ireturn, 1) := by decide +kernel
def f_X12_isIn (v0 : Int32) (v1 : Int32) (v2 : Int32) (D : aD) : Option (Int32 × aD) :=
  if v0 < v1 then (some (0, D)) else (if v2 < v0 then (some (0, D)) else (some (1, D)))
set_option maxRecDepth 100000 in
set_option maxHeartbeats 800000 in
theorem c_X12_isIn {G : aG} (hG : gOK G) {shp : List aSh} (hS : aShp shp) {fr : Option Nat} {v0 : Int32} {v1 : Int32} {v2 : Int32} {D : aD} {K : Int32 → aD → Prop} (h : Ok2 (f_X12_isIn v0 v1 v2 D) K) : AC G (aRm 1 0 0) M_X12_isIn [.int v0, .int v1, .int v2] fr shp D (aQi shp K) := by
  replace h := Ok2.ok h
  unfold f_X12_isIn at h
  refine AC.of (al := [some (.int v0), some (.int v1), some (.int v2)]) (r := 0) (by decide) (Nat.le_of_ble_eq_true rfl) rfl ?_
  refine aw_iload_n (n := 1) (i := 0) dX12_isIn_0 rfl rfl rfl ?_
  refine aw_iload_n (n := 2) (i := 1) dX12_isIn_1 rfl rfl rfl ?_
  refine aw_icmp_lt (n := 5) (tgt := 14) dX12_isIn_2 rfl (by decide) (fun c => ?_) (fun c => ?_)
  · replace h := Ok.ift h c
    refine aw_iconst (n := 15) (v := 0) dX12_isIn_14 rfl (by decide) ?_
    exact aw_zret rfl (by decide) (by decide) (by decide) dX12_isIn_15 ⟨_, rfl, rfl, (Ok.dn h :)⟩
  · replace h := Ok.iff h c
    refine aw_iload_n (n := 6) (i := 0) dX12_isIn_5 rfl rfl rfl ?_
    refine aw_iload_n (n := 7) (i := 2) dX12_isIn_6 rfl rfl rfl ?_
    refine aw_icmp_gt (n := 10) (tgt := 14) dX12_isIn_7 rfl (by decide) (fun c => ?_) (fun c => ?_)
    · replace h := Ok.ift h c
      refine aw_iconst (n := 15) (v := 0) dX12_isIn_14 rfl (by decide) ?_
      exact aw_zret rfl (by decide) (by decide) (by decide) dX12_isIn_15 ⟨_, rfl, rfl, (Ok.dn h :)⟩
    · replace h := Ok.iff h c
      refine aw_iconst (n := 11) (v := 1) dX12_isIn_10 rfl (by decide) ?_
      refine aw_goto (tgt := 15) dX12_isIn_11 (by decide) ?_
      exact aw_zret rfl (by decide) (by decide) (by decide) dX12_isIn_15 ⟨_, rfl, rfl, (Ok.dn h :)⟩
theorem dX12_isSort_0 : decode cX12_isSort 0 = .ok (.iload_n 1, 1) := by decide +kernel
theorem dX12_isSort_1 : decode cX12_isSort 1 = .ok (.iconst 0, 1) := by decide +kernel
theorem dX12_isSort_2 : decode cX12_isSort 2 = .ok (.aload_n 0, 1) := by decide +kernel
theorem dX12_isSort_3 : decode cX12_isSort 3 = .ok (.getfield 27, 3) := by decide +kernel
theorem dX12_isSort_6 : decode cX12_isSort 6 = .ok (.iconst 2, 1) := by decide +kernel
theorem dX12_isSort_7 : decode cX12_isSort 7 = .ok (.iaload, 1) := by decide +kernel
theorem dX12_isSort_8 : decode cX12_isSort 8 = .ok (.iconst 1, 1) := by decide +kernel
theorem dX12_isSort_9 : decode cX12_isSort 9 = .ok (.isub, 1) := by decide +kernel
theorem dX12_isSort_10 : decode cX12_isSort 10 = .ok (.invokestatic 160, 3) := by decide +kernel
theorem dX12_isSort_13 : decode cX12_isSort 13 = .ok (.ireturn, 1) := by decide +kernel
def f_X12_isSort (v1 : Int32) (D : aD) : Option (Int32 × aD) :=
  aGd (aIn 2 32) (aBi (f_X12_isIn v1 0 ((gI D 91 (2 : Int32).toNatClampNeg) - 1) D) (fun y_2 D_3 => aGd (aZ y_2) (some (y_2, D_3))))
set_option maxRecDepth 100000 in
set_option maxHeartbeats 800000 in
theorem c_X12_isSort {G : aG} (hG : gOK G) {shp : List aSh} (hS : aShp shp) {fr : Option Nat} {v1 : Int32} {D : aD} {K : Int32 → aD → Prop} (h : Ok2 (f_X12_isSort v1 D) K) : AC G (aRm 2 0 0) M_X12_isSort [.ref 88, .int v1] fr shp D (aQi shp K) := by
  replace h := Ok2.ok h
  unfold f_X12_isSort at h
  refine AC.of (al := [some (.ref 88), some (.int v1)]) (r := 0) (by decide) (Nat.le_of_ble_eq_true rfl) rfl ?_
  refine aw_iload_n (n := 1) (i := 1) dX12_isSort_0 rfl rfl rfl ?_
  refine aw_iconst (n := 2) (v := 0) dX12_isSort_1 rfl (by decide) ?_
  refine aw_aload_n (n := 3) (i := 0) dX12_isSort_2 rfl rfl rfl ?_
  refine aw_getR (n := 6) (j := 3) (r := 91) hG.1 fl_RX12_27 (sF_88 hS) rfl dX12_isSort_3 rfl ?_
  refine aw_iconst (n := 7) (v := 2) dX12_isSort_6 rfl (by decide) ?_
  obtain ⟨g_1, h⟩ := Ok.gd h
  refine aw_iaload (n := 8) hG.1 (sF_91 hS) (aIn_in g_1) dX12_isSort_7 rfl ?_
  refine aw_iconst (n := 9) (v := 1) dX12_isSort_8 rfl (by decide) ?_
  refine aw_isub (n := 10) dX12_isSort_9 rfl ?_
  refine aw_cSi (M := M_X12_isSort) (n := 13) (As := [.int v1, .int 0, .int ((gI D 91 (2 : Int32).toNatClampNeg) - 1)]) (rest := []) lk_RX12_160 rfl rfl (c_X12_isIn hG hS (h := Ok.bi h)) (by decide) (Nat.le_of_ble_eq_true rfl) (by decide) (by decide) dX12_isSort_10 rfl (fun y_2 D_3 h => ?_)
  obtain ⟨g_4, h⟩ := Ok.gd h
  exact aw_zret rfl (aZ_or g_4) (by decide) (by decide) dX12_isSort_13 ⟨_, rfl, rfl, (Ok.dn h :)⟩
theorem dX12_isGarden_0 : decode cX12_isGarden 0 = .ok (.iload_n 1, 1) := by decide +kernel
theorem dX12_isGarden_1 : decode cX12_isGarden 1 = .ok (.iconst 0, 1) := by decide +kernel
theorem dX12_isGarden_2 : decode cX12_isGarden 2 = .ok (.aload_n 0, 1) := by decide +kernel
theorem dX12_isGarden_3 : decode cX12_isGarden 3 = .ok (.getfield 27, 3) := by decide +kernel
theorem dX12_isGarden_6 : decode cX12_isGarden 6 = .ok (.iconst 3, 1) := by decide +kernel
theorem dX12_isGarden_7 : decode cX12_isGarden 7 = .ok (.iaload, 1) := by decide +kernel
theorem dX12_isGarden_8 : decode cX12_isGarden 8 = .ok (.iconst 1, 1) := by decide +kernel
theorem dX12_isGarden_9 : decode cX12_isGarden 9 = .ok (.isub, 1) := by decide +kernel
theorem dX12_isGarden_10 : decode cX12_isGarden 10 = .ok (.invokestatic 160, 3) := by decide +kernel
theorem dX12_isGarden_13 : decode cX12_isGarden 13 = .ok (.ireturn, 1) := by decide +kernel
def f_X12_isGarden (v1 : Int32) (D : aD) : Option (Int32 × aD) :=
  aGd (aIn 3 32) (aBi (f_X12_isIn v1 0 ((gI D 91 (3 : Int32).toNatClampNeg) - 1) D) (fun y_2 D_3 => aGd (aZ y_2) (some (y_2, D_3))))
set_option maxRecDepth 100000 in
set_option maxHeartbeats 800000 in
theorem c_X12_isGarden {G : aG} (hG : gOK G) {shp : List aSh} (hS : aShp shp) {fr : Option Nat} {v1 : Int32} {D : aD} {K : Int32 → aD → Prop} (h : Ok2 (f_X12_isGarden v1 D) K) : AC G (aRm 2 0 0) M_X12_isGarden [.ref 88, .int v1] fr shp D (aQi shp K) := by
  replace h := Ok2.ok h
  unfold f_X12_isGarden at h
  refine AC.of (al := [some (.ref 88), some (.int v1)]) (r := 0) (by decide) (Nat.le_of_ble_eq_true rfl) rfl ?_
  refine aw_iload_n (n := 1) (i := 1) dX12_isGarden_0 rfl rfl rfl ?_
  refine aw_iconst (n := 2) (v := 0) dX12_isGarden_1 rfl (by decide) ?_
  refine aw_aload_n (n := 3) (i := 0) dX12_isGarden_2 rfl rfl rfl ?_
  refine aw_getR (n := 6) (j := 3) (r := 91) hG.1 fl_RX12_27 (sF_88 hS) rfl dX12_isGarden_3 rfl ?_
  refine aw_iconst (n := 7) (v := 3) dX12_isGarden_6 rfl (by decide) ?_
  obtain ⟨g_1, h⟩ := Ok.gd h
  refine aw_iaload (n := 8) hG.1 (sF_91 hS) (aIn_in g_1) dX12_isGarden_7 rfl ?_
  refine aw_iconst (n := 9) (v := 1) dX12_isGarden_8 rfl (by decide) ?_
  refine aw_isub (n := 10) dX12_isGarden_9 rfl ?_
  refine aw_cSi (M := M_X12_isGarden) (n := 13) (As := [.int v1, .int 0, .int ((gI D 91 (3 : Int32).toNatClampNeg) - 1)]) (rest := []) lk_RX12_160 rfl rfl (c_X12_isIn hG hS (h := Ok.bi h)) (by decide) (Nat.le_of_ble_eq_true rfl) (by decide) (by decide) dX12_isGarden_10 rfl (fun y_2 D_3 h => ?_)
  obtain ⟨g_4, h⟩ := Ok.gd h
  exact aw_zret rfl (aZ_or g_4) (by decide) (by decide) dX12_isGarden_13 ⟨_, rfl, rfl, (Ok.dn h :)⟩
theorem dX12_isPlant_0 : decode cX12_isPlant 0 = .ok (.iload_n 1, 1) := by decide +kernel
theorem dX12_isPlant_1 : decode cX12_isPlant 1 = .ok (.iconst 0, 1) := by decide +kernel
theorem dX12_isPlant_2 : decode cX12_isPlant 2 = .ok (.aload_n 0, 1) := by decide +kernel
theorem dX12_isPlant_3 : decode cX12_isPlant 3 = .ok (.getfield 27, 3) := by decide +kernel
theorem dX12_isPlant_6 : decode cX12_isPlant 6 = .ok (.iconst 4, 1) := by decide +kernel
theorem dX12_isPlant_7 : decode cX12_isPlant 7 = .ok (.iaload, 1) := by decide +kernel
theorem dX12_isPlant_8 : decode cX12_isPlant 8 = .ok (.iconst 1, 1) := by decide +kernel
theorem dX12_isPlant_9 : decode cX12_isPlant 9 = .ok (.isub, 1) := by decide +kernel
theorem dX12_isPlant_10 : decode cX12_isPlant 10 = .ok (.invokestatic 160, 3) := by decide +kernel
theorem dX12_isPlant_13 : decode cX12_isPlant 13 = .ok (.ireturn, 1) := by decide +kernel
def f_X12_isPlant (v1 : Int32) (D : aD) : Option (Int32 × aD) :=
  aGd (aIn 4 32) (aBi (f_X12_isIn v1 0 ((gI D 91 (4 : Int32).toNatClampNeg) - 1) D) (fun y_2 D_3 => aGd (aZ y_2) (some (y_2, D_3))))
set_option maxRecDepth 100000 in
set_option maxHeartbeats 800000 in
theorem c_X12_isPlant {G : aG} (hG : gOK G) {shp : List aSh} (hS : aShp shp) {fr : Option Nat} {v1 : Int32} {D : aD} {K : Int32 → aD → Prop} (h : Ok2 (f_X12_isPlant v1 D) K) : AC G (aRm 2 0 0) M_X12_isPlant [.ref 88, .int v1] fr shp D (aQi shp K) := by
  replace h := Ok2.ok h
  unfold f_X12_isPlant at h
  refine AC.of (al := [some (.ref 88), some (.int v1)]) (r := 0) (by decide) (Nat.le_of_ble_eq_true rfl) rfl ?_
  refine aw_iload_n (n := 1) (i := 1) dX12_isPlant_0 rfl rfl rfl ?_
  refine aw_iconst (n := 2) (v := 0) dX12_isPlant_1 rfl (by decide) ?_
  refine aw_aload_n (n := 3) (i := 0) dX12_isPlant_2 rfl rfl rfl ?_
  refine aw_getR (n := 6) (j := 3) (r := 91) hG.1 fl_RX12_27 (sF_88 hS) rfl dX12_isPlant_3 rfl ?_
  refine aw_iconst (n := 7) (v := 4) dX12_isPlant_6 rfl (by decide) ?_
  obtain ⟨g_1, h⟩ := Ok.gd h
  refine aw_iaload (n := 8) hG.1 (sF_91 hS) (aIn_in g_1) dX12_isPlant_7 rfl ?_
  refine aw_iconst (n := 9) (v := 1) dX12_isPlant_8 rfl (by decide) ?_
  refine aw_isub (n := 10) dX12_isPlant_9 rfl ?_
  refine aw_cSi (M := M_X12_isPlant) (n := 13) (As := [.int v1, .int 0, .int ((gI D 91 (4 : Int32).toNatClampNeg) - 1)]) (rest := []) lk_RX12_160 rfl rfl (c_X12_isIn hG hS (h := Ok.bi h)) (by decide) (Nat.le_of_ble_eq_true rfl) (by decide) (by decide) dX12_isPlant_10 rfl (fun y_2 D_3 h => ?_)
  obtain ⟨g_4, h⟩ := Ok.gd h
  exact aw_zret rfl (aZ_or g_4) (by decide) (by decide) dX12_isPlant_13 ⟨_, rfl, rfl, (Ok.dn h :)⟩
theorem dX12_isPlace_0 : decode cX12_isPlace 0 = .ok (.iload_n 1, 1) := by decide +kernel
theorem dX12_isPlace_1 : decode cX12_isPlace 1 = .ok (.iconst 0, 1) := by decide +kernel
theorem dX12_isPlace_2 : decode cX12_isPlace 2 = .ok (.aload_n 0, 1) := by decide +kernel
theorem dX12_isPlace_3 : decode cX12_isPlace 3 = .ok (.getfield 27, 3) := by decide +kernel
theorem dX12_isPlace_6 : decode cX12_isPlace 6 = .ok (.iconst 0, 1) := by decide +kernel
theorem dX12_isPlace_7 : decode cX12_isPlace 7 = .ok (.iaload, 1) := by decide +kernel
theorem dX12_isPlace_8 : decode cX12_isPlace 8 = .ok (.aload_n 0, 1) := by decide +kernel
theorem dX12_isPlace_9 : decode cX12_isPlace 9 = .ok (.getfield 27, 3) := by decide +kernel
theorem dX12_isPlace_12 : decode cX12_isPlace 12 = .ok (.iconst 1, 1) := by decide +kernel
theorem dX12_isPlace_13 : decode cX12_isPlace 13 = .ok (.iaload, 1) := by decide +kernel
theorem dX12_isPlace_14 : decode cX12_isPlace 14 = .ok (.imul, 1) := by decide +kernel
theorem dX12_isPlace_15 : decode cX12_isPlace 15 = .ok (.iconst 1, 1) := by decide +kernel
theorem dX12_isPlace_16 : decode cX12_isPlace 16 = .ok (.isub, 1) := by decide +kernel
theorem dX12_isPlace_17 : decode cX12_isPlace 17 = .ok (.invokestatic 160, 3) := by decide +kernel
theorem dX12_isPlace_20 : decode cX12_isPlace 20 = .ok (.ifCond .eq 26, 3) := by decide +kernel
theorem dX12_isPlace_23 : decode cX12_isPlace 23 = .ok (.iload_n 2, 1) := by decide +kernel
theorem dX12_isPlace_24 : decode cX12_isPlace 24 = .ok (.iconst 0, 1) := by decide +kernel
theorem dX12_isPlace_25 : decode cX12_isPlace 25 = .ok (.bipush 23, 2) := by decide +kernel
theorem dX12_isPlace_27 : decode cX12_isPlace 27 = .ok (.invokestatic 160, 3) := by decide +kernel
theorem dX12_isPlace_30 : decode cX12_isPlace 30 = .ok (.ifCond .eq 16, 3) := by decide +kernel
theorem dX12_isPlace_33 : decode cX12_isPlace 33 = .ok (.iload_n 3, 1) := by decide +kernel
theorem dX12_isPlace_34 : decode cX12_isPlace 34 = .ok (.iconst 0, 1) := by decide +kernel
theorem dX12_isPlace_35 : decode cX12_isPlace 35 = .ok (.iconst 4, 1) := by decide +kernel
theorem dX12_isPlace_36 : decode cX12_isPlace 36 = .ok (.invokestatic 160, 3) := by decide +kernel
theorem dX12_isPlace_39 : decode cX12_isPlace 39 = .ok (.ifCond .eq 7, 3) := by decide +kernel
theorem dX12_isPlace_42 : decode cX12_isPlace 42 = .ok (.iconst 1, 1) := by decide +kernel
theorem dX12_isPlace_43 : decode cX12_isPlace 43 = .ok (.goto 4, 3) := by decide +kernel
theorem dX12_isPlace_46 : decode cX12_isPlace 46 = .ok (.iconst 0, 1) := by decide +kernel
theorem dX12_isPlace_47 : decode cX12_isPlace 47 = .ok (.ireturn, 1) := by decide +kernel
def f_X12_isPlace (v1 : Int32) (v2 : Int32) (v3 : Int32) (D : aD) : Option (Int32 × aD) :=
  aGd (aIn 0 32) (aGd (aIn 1 32) (aBi (f_X12_isIn v1 0 (((gI D 91 (0 : Int32).toNatClampNeg) * (gI D 91 (1 : Int32).toNatClampNeg)) - 1) D) (fun y_3 D_4 => if y_3 = 0 then (some (0, D_4)) else (aBi (f_X12_isIn v2 0 23 D_4) (fun y_5 D_6 => if y_5 = 0 then (some (0, D_6)) else (aBi (f_X12_isIn v3 0 4 D_6) (fun y_7 D_8 => if y_7 = 0 then (some (0, D_8)) else (some (1, D_8)))))))))
set_option maxRecDepth 100000 in
set_option maxHeartbeats 800000 in
theorem c_X12_isPlace {G : aG} (hG : gOK G) {shp : List aSh} (hS : aShp shp) {fr : Option Nat} {v1 : Int32} {v2 : Int32} {v3 : Int32} {D : aD} {K : Int32 → aD → Prop} (h : Ok2 (f_X12_isPlace v1 v2 v3 D) K) : AC G (aRm 2 0 0) M_X12_isPlace [.ref 88, .int v1, .int v2, .int v3] fr shp D (aQi shp K) := by
  replace h := Ok2.ok h
  unfold f_X12_isPlace at h
  refine AC.of (al := [some (.ref 88), some (.int v1), some (.int v2), some (.int v3)]) (r := 0) (by decide) (Nat.le_of_ble_eq_true rfl) rfl ?_
  refine aw_iload_n (n := 1) (i := 1) dX12_isPlace_0 rfl rfl rfl ?_
  refine aw_iconst (n := 2) (v := 0) dX12_isPlace_1 rfl (by decide) ?_
  refine aw_aload_n (n := 3) (i := 0) dX12_isPlace_2 rfl rfl rfl ?_
  refine aw_getR (n := 6) (j := 3) (r := 91) hG.1 fl_RX12_27 (sF_88 hS) rfl dX12_isPlace_3 rfl ?_
  refine aw_iconst (n := 7) (v := 0) dX12_isPlace_6 rfl (by decide) ?_
  obtain ⟨g_1, h⟩ := Ok.gd h
  refine aw_iaload (n := 8) hG.1 (sF_91 hS) (aIn_in g_1) dX12_isPlace_7 rfl ?_
  refine aw_aload_n (n := 9) (i := 0) dX12_isPlace_8 rfl rfl rfl ?_
  refine aw_getR (n := 12) (j := 3) (r := 91) hG.1 fl_RX12_27 (sF_88 hS) rfl dX12_isPlace_9 rfl ?_
  refine aw_iconst (n := 13) (v := 1) dX12_isPlace_12 rfl (by decide) ?_
  obtain ⟨g_2, h⟩ := Ok.gd h
  refine aw_iaload (n := 14) hG.1 (sF_91 hS) (aIn_in g_2) dX12_isPlace_13 rfl ?_
  refine aw_imul (n := 15) dX12_isPlace_14 rfl ?_
  refine aw_iconst (n := 16) (v := 1) dX12_isPlace_15 rfl (by decide) ?_
  refine aw_isub (n := 17) dX12_isPlace_16 rfl ?_
  refine aw_cSi (M := M_X12_isPlace) (n := 20) (As := [.int v1, .int 0, .int (((gI D 91 (0 : Int32).toNatClampNeg) * (gI D 91 (1 : Int32).toNatClampNeg)) - 1)]) (rest := []) lk_RX12_160 rfl rfl (c_X12_isIn hG hS (h := Ok.bi h)) (by decide) (Nat.le_of_ble_eq_true rfl) (by decide) (by decide) dX12_isPlace_17 rfl (fun y_3 D_4 h => ?_)
  refine aw_if_eq (n := 23) (tgt := 46) dX12_isPlace_20 rfl (by decide) (fun c => ?_) (fun c => ?_)
  · replace h := Ok.ift h c
    refine aw_iconst (n := 47) (v := 0) dX12_isPlace_46 rfl (by decide) ?_
    exact aw_zret rfl (by decide) (by decide) (by decide) dX12_isPlace_47 ⟨_, rfl, rfl, (Ok.dn h :)⟩
  · replace h := Ok.iff h c
    refine aw_iload_n (n := 24) (i := 2) dX12_isPlace_23 rfl rfl rfl ?_
    refine aw_iconst (n := 25) (v := 0) dX12_isPlace_24 rfl (by decide) ?_
    refine aw_bipush (n := 27) (v := 23) dX12_isPlace_25 rfl (by decide) ?_
    refine aw_cSi (M := M_X12_isPlace) (n := 30) (As := [.int v2, .int 0, .int 23]) (rest := []) lk_RX12_160 rfl rfl (c_X12_isIn hG hS (h := Ok.bi h)) (by decide) (Nat.le_of_ble_eq_true rfl) (by decide) (by decide) dX12_isPlace_27 rfl (fun y_5 D_6 h => ?_)
    refine aw_if_eq (n := 33) (tgt := 46) dX12_isPlace_30 rfl (by decide) (fun c => ?_) (fun c => ?_)
    · replace h := Ok.ift h c
      refine aw_iconst (n := 47) (v := 0) dX12_isPlace_46 rfl (by decide) ?_
      exact aw_zret rfl (by decide) (by decide) (by decide) dX12_isPlace_47 ⟨_, rfl, rfl, (Ok.dn h :)⟩
    · replace h := Ok.iff h c
      refine aw_iload_n (n := 34) (i := 3) dX12_isPlace_33 rfl rfl rfl ?_
      refine aw_iconst (n := 35) (v := 0) dX12_isPlace_34 rfl (by decide) ?_
      refine aw_iconst (n := 36) (v := 4) dX12_isPlace_35 rfl (by decide) ?_
      refine aw_cSi (M := M_X12_isPlace) (n := 39) (As := [.int v3, .int 0, .int 4]) (rest := []) lk_RX12_160 rfl rfl (c_X12_isIn hG hS (h := Ok.bi h)) (by decide) (Nat.le_of_ble_eq_true rfl) (by decide) (by decide) dX12_isPlace_36 rfl (fun y_7 D_8 h => ?_)
      refine aw_if_eq (n := 42) (tgt := 46) dX12_isPlace_39 rfl (by decide) (fun c => ?_) (fun c => ?_)
      · replace h := Ok.ift h c
        refine aw_iconst (n := 47) (v := 0) dX12_isPlace_46 rfl (by decide) ?_
        exact aw_zret rfl (by decide) (by decide) (by decide) dX12_isPlace_47 ⟨_, rfl, rfl, (Ok.dn h :)⟩
      · replace h := Ok.iff h c
        refine aw_iconst (n := 43) (v := 1) dX12_isPlace_42 rfl (by decide) ?_
        refine aw_goto (tgt := 47) dX12_isPlace_43 (by decide) ?_
        exact aw_zret rfl (by decide) (by decide) (by decide) dX12_isPlace_47 ⟨_, rfl, rfl, (Ok.dn h :)⟩
theorem dX12_feed_0 : decode cX12_feed 0 = .ok (.aload_n 0, 1) := by decide +kernel
theorem dX12_feed_1 : decode cX12_feed 1 = .ok (.iconst 0, 1) := by decide +kernel
theorem dX12_feed_2 : decode cX12_feed 2 = .ok (.putfield 157, 3) := by decide +kernel
theorem dX12_feed_5 : decode cX12_feed 5 = .ok (.aload_n 0, 1) := by decide +kernel
theorem dX12_feed_6 : decode cX12_feed 6 = .ok (.getfield 164, 3) := by decide +kernel
theorem dX12_feed_9 : decode cX12_feed 9 = .ok (.bipush 20, 2) := by decide +kernel
theorem dX12_feed_11 : decode cX12_feed 11 = .ok (.iadd, 1) := by decide +kernel
theorem dX12_feed_12 : decode cX12_feed 12 = .ok (.sipush 700, 3) := by decide +kernel
theorem dX12_feed_15 : decode cX12_feed 15 = .ok (.if_icmp .le 5, 3) := by decide +kernel
theorem dX12_feed_18 : decode cX12_feed 18 = .ok (.iconst (-1), 1) := by decide +kernel
theorem dX12_feed_19 : decode cX12_feed 19 = .ok (.ireturn, 1) := by decide +kernel
theorem dX12_feed_20 : decode cX12_feed 20 = .ok (.iconst 0, 1) := by decide +kernel
theorem dX12_feed_21 : decode cX12_feed 21 = .ok (.istore 6, 2) := by decide +kernel
theorem dX12_feed_23 : decode cX12_feed 23 = .ok (.iload 6, 2) := by decide +kernel
theorem dX12_feed_25 : decode cX12_feed 25 = .ok (.bipush 20, 2) := by decide +kernel
theorem dX12_feed_27 : decode cX12_feed 27 = .ok (.if_icmp .ge 93, 3) := by decide +kernel
theorem dX12_feed_30 : decode cX12_feed 30 = .ok (.iload 6, 2) := by decide +kernel
theorem dX12_feed_32 : decode cX12_feed 32 = .ok (.iconst 4, 1) := by decide +kernel
theorem dX12_feed_33 : decode cX12_feed 33 = .ok (.if_icmp .ge 7, 3) := by decide +kernel
theorem dX12_feed_36 : decode cX12_feed 36 = .ok (.iload_n 1, 1) := by decide +kernel
theorem dX12_feed_37 : decode cX12_feed 37 = .ok (.goto 39, 3) := by decide +kernel
theorem dX12_feed_40 : decode cX12_feed 40 = .ok (.iload 6, 2) := by decide +kernel
theorem dX12_feed_42 : decode cX12_feed 42 = .ok (.bipush 8, 2) := by decide +kernel
theorem dX12_feed_44 : decode cX12_feed 44 = .ok (.if_icmp .ge 7, 3) := by decide +kernel
theorem dX12_feed_47 : decode cX12_feed 47 = .ok (.iload_n 2, 1) := by decide +kernel
theorem dX12_feed_48 : decode cX12_feed 48 = .ok (.goto 28, 3) := by decide +kernel
theorem dX12_feed_51 : decode cX12_feed 51 = .ok (.iload 6, 2) := by decide +kernel
theorem dX12_feed_53 : decode cX12_feed 53 = .ok (.bipush 12, 2) := by decide +kernel
theorem dX12_feed_55 : decode cX12_feed 55 = .ok (.if_icmp .ge 7, 3) := by decide +kernel
theorem dX12_feed_58 : decode cX12_feed 58 = .ok (.iload_n 3, 1) := by decide +kernel
theorem dX12_feed_59 : decode cX12_feed 59 = .ok (.goto 17, 3) := by decide +kernel
theorem dX12_feed_62 : decode cX12_feed 62 = .ok (.iload 6, 2) := by decide +kernel
theorem dX12_feed_64 : decode cX12_feed 64 = .ok (.bipush 16, 2) := by decide +kernel
theorem dX12_feed_66 : decode cX12_feed 66 = .ok (.if_icmp .ge 8, 3) := by decide +kernel
theorem dX12_feed_69 : decode cX12_feed 69 = .ok (.iload 4, 2) := by decide +kernel
theorem dX12_feed_71 : decode cX12_feed 71 = .ok (.goto 5, 3) := by decide +kernel
theorem dX12_feed_74 : decode cX12_feed 74 = .ok (.iload 5, 2) := by decide +kernel
theorem dX12_feed_76 : decode cX12_feed 76 = .ok (.istore 7, 2) := by decide +kernel
theorem dX12_feed_78 : decode cX12_feed 78 = .ok (.aload_n 0, 1) := by decide +kernel
theorem dX12_feed_79 : decode cX12_feed 79 = .ok (.getfield 69, 3) := by decide +kernel
theorem dX12_feed_82 : decode cX12_feed 82 = .ok (.aload_n 0, 1) := by decide +kernel
theorem dX12_feed_83 : decode cX12_feed 83 = .ok (.getfield 164, 3) := by decide +kernel
theorem dX12_feed_86 : decode cX12_feed 86 = .ok (.iload 7, 2) := by decide +kernel
theorem dX12_feed_88 : decode cX12_feed 88 = .ok (.bipush 24, 2) := by decide +kernel
theorem dX12_feed_90 : decode cX12_feed 90 = .ok (.bipush 8, 2) := by decide +kernel
theorem dX12_feed_92 : decode cX12_feed 92 = .ok (.iload 6, 2) := by decide +kernel
theorem dX12_feed_94 : decode cX12_feed 94 = .ok (.iconst 4, 1) := by decide +kernel
theorem dX12_feed_95 : decode cX12_feed 95 = .ok (.irem, 1) := by decide +kernel
theorem dX12_feed_96 : decode cX12_feed 96 = .ok (.imul, 1) := by decide +kernel
theorem dX12_feed_97 : decode cX12_feed 97 = .ok (.isub, 1) := by decide +kernel
theorem dX12_feed_98 : decode cX12_feed 98 = .ok (.ishr, 1) := by decide +kernel
theorem dX12_feed_99 : decode cX12_feed 99 = .ok (.sipush 255, 3) := by decide +kernel
theorem dX12_feed_102 : decode cX12_feed 102 = .ok (.iand, 1) := by decide +kernel
theorem dX12_feed_103 : decode cX12_feed 103 = .ok (.iastore, 1) := by decide +kernel
theorem dX12_feed_104 : decode cX12_feed 104 = .ok (.aload_n 0, 1) := by decide +kernel
theorem dX12_feed_105 : decode cX12_feed 105 = .ok (.dup, 1) := by decide +kernel
theorem dX12_feed_106 : decode cX12_feed 106 = .ok (.getfield 164, 3) := by decide +kernel
theorem dX12_feed_109 : decode cX12_feed 109 = .ok (.iconst 1, 1) := by decide +kernel
theorem dX12_feed_110 : decode cX12_feed 110 = .ok (.iadd, 1) := by decide +kernel
theorem dX12_feed_111 : decode cX12_feed 111 = .ok (.putfield 164, 3) := by decide +kernel
theorem dX12_feed_114 : decode cX12_feed 114 = .ok (.iinc 6 1, 3) := by decide +kernel
theorem dX12_feed_117 : decode cX12_feed 117 = .ok (.goto (-94), 3) := by decide +kernel
theorem dX12_feed_120 : decode cX12_feed 120 = .ok (.aload_n 0, 1) := by decide +kernel
theorem dX12_feed_121 : decode cX12_feed 121 = .ok (.getfield 164, 3) := by decide +kernel
theorem dX12_feed_124 : decode cX12_feed 124 = .ok (.ireturn, 1) := by decide +kernel
def J_X12_feed_120 (D : aD) : Option (Int32 × aD) :=
  some (gI D 88 18, D)
def J_X12_feed_76 (v1 : Int32) (v2 : Int32) (v3 : Int32) (v4 : Int32) (v5 : Int32) (v6 : Int32) (t0 : Int32) (D : aD) : Option ((Int32 × aD) ⊕ ((aD))) :=
  aGd (aIn (gI D 88 18) 700) (aLet (pI D 105 (gI D 88 18).toNatClampNeg ((t0 >>> ((24 - (8 * (v6 - v6 / 4 * 4))) &&& 31)) &&& 255)) (fun D_3 => aLet (pI D_3 88 18 ((gI D_3 88 18) + 1)) (fun D_4 => aLet (v6 + 1) (fun v6_5 => some (.inl (v6_5, D_4))))))
def B_X12_feed_23 (v1 : Int32) (v2 : Int32) (v3 : Int32) (v4 : Int32) (v5 : Int32) (v6 : Int32) (D : aD) : Option ((Int32 × aD) ⊕ ((aD))) :=
  if 20 ≤ v6 then (some (.inr D)) else (if 4 ≤ v6 then (if 8 ≤ v6 then (if 12 ≤ v6 then (if 16 ≤ v6 then (J_X12_feed_76 v1 v2 v3 v4 v5 v6 v5 D) else (J_X12_feed_76 v1 v2 v3 v4 v5 v6 v4 D)) else (J_X12_feed_76 v1 v2 v3 v4 v5 v6 v3 D)) else (J_X12_feed_76 v1 v2 v3 v4 v5 v6 v2 D)) else (J_X12_feed_76 v1 v2 v3 v4 v5 v6 v1 D))
def J_X12_feed_23 (v1 : Int32) (v2 : Int32) (v3 : Int32) (v4 : Int32) (v5 : Int32) (v6 : Int32) (D : aD) : Option (Int32 × aD) :=
  (aLp (fun s => B_X12_feed_23 v1 v2 v3 v4 v5 s.1 s.2) (v6, D)).bind (fun r => J_X12_feed_120 r)
def f_X12_feed (v1 : Int32) (v2 : Int32) (v3 : Int32) (v4 : Int32) (v5 : Int32) (D : aD) : Option (Int32 × aD) :=
  aLet (pI D 88 2 0) (fun D_1 => if (gI D_1 88 18) + 20 ≤ 700 then (J_X12_feed_23 v1 v2 v3 v4 v5 0 D_1) else (some ((-1), D_1)))
set_option maxRecDepth 100000 in
set_option maxHeartbeats 800000 in
theorem c_X12_feed {G : aG} (hG : gOK G) {shp : List aSh} (hS : aShp shp) {fr : Option Nat} {v1 : Int32} {v2 : Int32} {v3 : Int32} {v4 : Int32} {v5 : Int32} {D : aD} {K : Int32 → aD → Prop} (h : Ok2 (f_X12_feed v1 v2 v3 v4 v5 D) K) : AC G (aRm 1 0 0) M_X12_feed [.ref 88, .int v1, .int v2, .int v3, .int v4, .int v5] fr shp D (aQi shp K) := by
  replace h := Ok2.ok h
  unfold f_X12_feed at h
  refine AC.of (al := [some (.ref 88), some (.int v1), some (.int v2), some (.int v3), some (.int v4), some (.int v5), none, none]) (r := 2) (by decide) (Nat.le_of_ble_eq_true rfl) rfl ?_
  have hJ_120 : ∀ (D : aD), Ok (J_X12_feed_120 D) (fun r => K r.1 r.2) → AW G (aRm 1 0 0) M_X12_feed fr 0 0 120 [some (.ref 88), none, none, none, none, none, none, none] [] shp D (aQi shp K) := by
    intro D h
    unfold J_X12_feed_120 at h
    refine aw_aload_n (n := 121) (i := 0) dX12_feed_120 rfl rfl rfl ?_
    refine aw_getI (n := 124) (j := 18) hG.1 fl_RX12_164 (sF_88 hS) rfl dX12_feed_121 rfl ?_
    exact aw_iret rfl (by decide) (by decide) dX12_feed_124 ⟨_, rfl, rfl, (Ok.dn h :)⟩
  have hJ_23 : ∀ (v1 : Int32) (v2 : Int32) (v3 : Int32) (v4 : Int32) (v5 : Int32) (v6 : Int32) (D : aD), Ok (J_X12_feed_23 v1 v2 v3 v4 v5 v6 D) (fun r => K r.1 r.2) → AW G (aRm 1 0 0) M_X12_feed fr 0 0 23 [some (.ref 88), some (.int v1), some (.int v2), some (.int v3), some (.int v4), some (.int v5), some (.int v6), none] [] shp D (aQi shp K) := by
    intro v1 v2 v3 v4 v5 v6 D h
    unfold J_X12_feed_23 at h
    refine Ok.lp (P := fun s => AW G (aRm 1 0 0) M_X12_feed fr 0 0 23 [some (.ref 88), some (.int v1), some (.int v2), some (.int v3), some (.int v4), some (.int v5), some (.int (s.1)), none] [] shp s.2 (aQi shp K)) (fun s Kb23 hL23 hR23 h => ?_) (v6, D) (Ok.bind h)
    obtain ⟨v6, D⟩ := s
    replace h : Ok (B_X12_feed_23 v1 v2 v3 v4 v5 v6 D) Kb23 := h
    unfold B_X12_feed_23 at h
    have hJ_76 : ∀ (v6 : Int32) (t0 : Int32) (D : aD), Ok (J_X12_feed_76 v1 v2 v3 v4 v5 v6 t0 D) Kb23 → AW G (aRm 1 0 0) M_X12_feed fr 0 0 76 [some (.ref 88), some (.int v1), some (.int v2), some (.int v3), some (.int v4), some (.int v5), some (.int v6), none] [.int t0] shp D (aQi shp K) := by
      intro v6 t0 D h
      unfold J_X12_feed_76 at h
      refine aw_istore (n := 78) (i := 7) (al' := [some (.ref 88), some (.int v1), some (.int v2), some (.int v3), some (.int v4), some (.int v5), some (.int v6), some (.int t0)]) dX12_feed_76 rfl rfl (by decide) rfl ?_
      refine aw_aload_n (n := 79) (i := 0) dX12_feed_78 rfl rfl rfl ?_
      refine aw_getR (n := 82) (j := 17) (r := 105) hG.1 fl_RX12_69 (sF_88 hS) rfl dX12_feed_79 rfl ?_
      refine aw_aload_n (n := 83) (i := 0) dX12_feed_82 rfl rfl rfl ?_
      refine aw_getI (n := 86) (j := 18) hG.1 fl_RX12_164 (sF_88 hS) rfl dX12_feed_83 rfl ?_
      refine aw_iload (n := 88) (i := 7) dX12_feed_86 rfl rfl ?_
      refine aw_bipush (n := 90) (v := 24) dX12_feed_88 rfl (by decide) ?_
      refine aw_bipush (n := 92) (v := 8) dX12_feed_90 rfl (by decide) ?_
      refine aw_iload (n := 94) (i := 6) dX12_feed_92 rfl rfl ?_
      refine aw_iconst (n := 95) (v := 4) dX12_feed_94 rfl (by decide) ?_
      refine aw_irem (n := 96) dX12_feed_95 rfl (by decide) ?_
      refine aw_imul (n := 97) dX12_feed_96 rfl ?_
      refine aw_isub (n := 98) dX12_feed_97 rfl ?_
      refine aw_ishr (n := 99) dX12_feed_98 rfl ?_
      refine aw_sipush (n := 102) (v := 255) dX12_feed_99 rfl (by decide) ?_
      refine aw_iand (n := 103) dX12_feed_102 rfl ?_
      obtain ⟨g_2, h⟩ := Ok.gd h
      obtain ⟨D_3, e_D_3, h⟩ := Ok.let_ h
      refine aw_iastore (n := 104) hG.1 (sF_105 hS) (aIn_in g_2) e_D_3 dX12_feed_103 rfl ?_
      refine aw_aload_n (n := 105) (i := 0) dX12_feed_104 rfl rfl rfl ?_
      refine aw_dup (n := 106) dX12_feed_105 rfl rfl ?_
      refine aw_getI (n := 109) (j := 18) hG.1 fl_RX12_164 (sF_88 hS) rfl dX12_feed_106 rfl ?_
      refine aw_iconst (n := 110) (v := 1) dX12_feed_109 rfl (by decide) ?_
      refine aw_iadd (n := 111) dX12_feed_110 rfl ?_
      obtain ⟨D_4, e_D_4, h⟩ := Ok.let_ h
      refine aw_putI (n := 114) (j := 18) hG.1 fl_RX12_164 (sF_88 hS) rfl e_D_4 dX12_feed_111 rfl ?_
      obtain ⟨v6_5, e_v6_5, h⟩ := Ok.let_ h
      refine aw_iinc (n := 117) (al' := [some (.ref 88), some (.int v1), some (.int v2), some (.int v3), some (.int v4), some (.int v5), some (.int v6_5), some (.int t0)]) dX12_feed_114 rfl rfl e_v6_5 (by decide) rfl ?_
      refine aw_goto (tgt := 23) dX12_feed_117 (by decide) ?_
      exact aw_le' (hL23 (v6_5, D_4) (Ok.dn h :)) ⟨rfl, ⟨rfl, ⟨rfl, ⟨rfl, ⟨rfl, ⟨rfl, ⟨rfl, trivial⟩⟩⟩⟩⟩⟩⟩
    refine aw_iload (n := 25) (i := 6) dX12_feed_23 rfl rfl ?_
    refine aw_bipush (n := 27) (v := 20) dX12_feed_25 rfl (by decide) ?_
    refine aw_icmp_ge (n := 30) (tgt := 120) dX12_feed_27 rfl (by decide) (fun c => ?_) (fun c => ?_)
    · replace h := Ok.ift h c
      exact aw_le' (hJ_120 D (hR23 D (Ok.dn h :))) ⟨rfl, trivial⟩
    · replace h := Ok.iff h c
      refine aw_iload (n := 32) (i := 6) dX12_feed_30 rfl rfl ?_
      refine aw_iconst (n := 33) (v := 4) dX12_feed_32 rfl (by decide) ?_
      refine aw_icmp_ge (n := 36) (tgt := 40) dX12_feed_33 rfl (by decide) (fun c => ?_) (fun c => ?_)
      · replace h := Ok.ift h c
        refine aw_iload (n := 42) (i := 6) dX12_feed_40 rfl rfl ?_
        refine aw_bipush (n := 44) (v := 8) dX12_feed_42 rfl (by decide) ?_
        refine aw_icmp_ge (n := 47) (tgt := 51) dX12_feed_44 rfl (by decide) (fun c => ?_) (fun c => ?_)
        · replace h := Ok.ift h c
          refine aw_iload (n := 53) (i := 6) dX12_feed_51 rfl rfl ?_
          refine aw_bipush (n := 55) (v := 12) dX12_feed_53 rfl (by decide) ?_
          refine aw_icmp_ge (n := 58) (tgt := 62) dX12_feed_55 rfl (by decide) (fun c => ?_) (fun c => ?_)
          · replace h := Ok.ift h c
            refine aw_iload (n := 64) (i := 6) dX12_feed_62 rfl rfl ?_
            refine aw_bipush (n := 66) (v := 16) dX12_feed_64 rfl (by decide) ?_
            refine aw_icmp_ge (n := 69) (tgt := 74) dX12_feed_66 rfl (by decide) (fun c => ?_) (fun c => ?_)
            · replace h := Ok.ift h c
              refine aw_iload (n := 76) (i := 5) dX12_feed_74 rfl rfl ?_
              exact aw_le' (hJ_76 v6 v5 D h) ⟨rfl, ⟨rfl, ⟨rfl, ⟨rfl, ⟨rfl, ⟨rfl, ⟨rfl, trivial⟩⟩⟩⟩⟩⟩⟩
            · replace h := Ok.iff h c
              refine aw_iload (n := 71) (i := 4) dX12_feed_69 rfl rfl ?_
              refine aw_goto (tgt := 76) dX12_feed_71 (by decide) ?_
              exact aw_le' (hJ_76 v6 v4 D h) ⟨rfl, ⟨rfl, ⟨rfl, ⟨rfl, ⟨rfl, ⟨rfl, ⟨rfl, trivial⟩⟩⟩⟩⟩⟩⟩
          · replace h := Ok.iff h c
            refine aw_iload_n (n := 59) (i := 3) dX12_feed_58 rfl rfl rfl ?_
            refine aw_goto (tgt := 76) dX12_feed_59 (by decide) ?_
            exact aw_le' (hJ_76 v6 v3 D h) ⟨rfl, ⟨rfl, ⟨rfl, ⟨rfl, ⟨rfl, ⟨rfl, ⟨rfl, trivial⟩⟩⟩⟩⟩⟩⟩
        · replace h := Ok.iff h c
          refine aw_iload_n (n := 48) (i := 2) dX12_feed_47 rfl rfl rfl ?_
          refine aw_goto (tgt := 76) dX12_feed_48 (by decide) ?_
          exact aw_le' (hJ_76 v6 v2 D h) ⟨rfl, ⟨rfl, ⟨rfl, ⟨rfl, ⟨rfl, ⟨rfl, ⟨rfl, trivial⟩⟩⟩⟩⟩⟩⟩
      · replace h := Ok.iff h c
        refine aw_iload_n (n := 37) (i := 1) dX12_feed_36 rfl rfl rfl ?_
        refine aw_goto (tgt := 76) dX12_feed_37 (by decide) ?_
        exact aw_le' (hJ_76 v6 v1 D h) ⟨rfl, ⟨rfl, ⟨rfl, ⟨rfl, ⟨rfl, ⟨rfl, ⟨rfl, trivial⟩⟩⟩⟩⟩⟩⟩
  refine aw_aload_n (n := 1) (i := 0) dX12_feed_0 rfl rfl rfl ?_
  refine aw_iconst (n := 2) (v := 0) dX12_feed_1 rfl (by decide) ?_
  obtain ⟨D_1, e_D_1, h⟩ := Ok.let_ h
  refine aw_putI (n := 5) (j := 2) hG.1 fl_RX12_157 (sF_88 hS) rfl e_D_1 dX12_feed_2 rfl ?_
  refine aw_aload_n (n := 6) (i := 0) dX12_feed_5 rfl rfl rfl ?_
  refine aw_getI (n := 9) (j := 18) hG.1 fl_RX12_164 (sF_88 hS) rfl dX12_feed_6 rfl ?_
  refine aw_bipush (n := 11) (v := 20) dX12_feed_9 rfl (by decide) ?_
  refine aw_iadd (n := 12) dX12_feed_11 rfl ?_
  refine aw_sipush (n := 15) (v := 700) dX12_feed_12 rfl (by decide) ?_
  refine aw_icmp_le (n := 18) (tgt := 20) dX12_feed_15 rfl (by decide) (fun c => ?_) (fun c => ?_)
  · replace h := Ok.ift h c
    refine aw_iconst (n := 21) (v := 0) dX12_feed_20 rfl (by decide) ?_
    refine aw_istore (n := 23) (i := 6) (al' := [some (.ref 88), some (.int v1), some (.int v2), some (.int v3), some (.int v4), some (.int v5), some (.int 0), none]) dX12_feed_21 rfl rfl (by decide) rfl ?_
    exact aw_le' (hJ_23 v1 v2 v3 v4 v5 0 D_1 h) ⟨rfl, ⟨rfl, ⟨rfl, ⟨rfl, ⟨rfl, ⟨rfl, ⟨rfl, trivial⟩⟩⟩⟩⟩⟩⟩
  · replace h := Ok.iff h c
    refine aw_iconst (n := 19) (v := (-1)) dX12_feed_18 rfl (by decide) ?_
    exact aw_iret rfl (by decide) (by decide) dX12_feed_19 ⟨_, rfl, rfl, (Ok.dn h :)⟩
theorem dX12_byteAt_0 : decode cX12_byteAt 0 = .ok (.iload_n 1, 1) := by decide +kernel
theorem dX12_byteAt_1 : decode cX12_byteAt 1 = .ok (.aload_n 0, 1) := by decide +kernel
theorem dX12_byteAt_2 : decode cX12_byteAt 2 = .ok (.getfield 167, 3) := by decide +kernel
theorem dX12_byteAt_5 : decode cX12_byteAt 5 = .ok (.if_icmp .ge 12, 3) := by decide +kernel
theorem dX12_byteAt_8 : decode cX12_byteAt 8 = .ok (.aload_n 0, 1) := by decide +kernel
theorem dX12_byteAt_9 : decode cX12_byteAt 9 = .ok (.getfield 69, 3) := by decide +kernel
theorem dX12_byteAt_12 : decode cX12_byteAt 12 = .ok (.iload_n 1, 1) := by decide +kernel
theorem dX12_byteAt_13 : decode cX12_byteAt 13 = .ok (.iaload, 1) := by decide +kernel
theorem dX12_byteAt_14 : decode cX12_byteAt 14 = .ok (.goto 4, 3) := by decide +kernel
theorem dX12_byteAt_17 : decode cX12_byteAt 17 = .ok (.iconst (-1), 1) := by decide +kernel
theorem dX12_byteAt_18 : decode cX12_byteAt 18 = .ok (.ireturn, 1) := by decide +kernel
def f_X12_byteAt (v1 : Int32) (D : aD) : Option (Int32 × aD) :=
  if gI D 88 20 ≤ v1 then (some ((-1), D)) else (aGd (aIn v1 700) (some (gI D 105 v1.toNatClampNeg, D)))
set_option maxRecDepth 100000 in
set_option maxHeartbeats 800000 in
theorem c_X12_byteAt {G : aG} (hG : gOK G) {shp : List aSh} (hS : aShp shp) {fr : Option Nat} {v1 : Int32} {D : aD} {K : Int32 → aD → Prop} (h : Ok2 (f_X12_byteAt v1 D) K) : AC G (aRm 1 0 0) M_X12_byteAt [.ref 88, .int v1] fr shp D (aQi shp K) := by
  replace h := Ok2.ok h
  unfold f_X12_byteAt at h
  refine AC.of (al := [some (.ref 88), some (.int v1)]) (r := 0) (by decide) (Nat.le_of_ble_eq_true rfl) rfl ?_
  refine aw_iload_n (n := 1) (i := 1) dX12_byteAt_0 rfl rfl rfl ?_
  refine aw_aload_n (n := 2) (i := 0) dX12_byteAt_1 rfl rfl rfl ?_
  refine aw_getI (n := 5) (j := 20) hG.1 fl_RX12_167 (sF_88 hS) rfl dX12_byteAt_2 rfl ?_
  refine aw_icmp_ge (n := 8) (tgt := 17) dX12_byteAt_5 rfl (by decide) (fun c => ?_) (fun c => ?_)
  · replace h := Ok.ift h c
    refine aw_iconst (n := 18) (v := (-1)) dX12_byteAt_17 rfl (by decide) ?_
    exact aw_iret rfl (by decide) (by decide) dX12_byteAt_18 ⟨_, rfl, rfl, (Ok.dn h :)⟩
  · replace h := Ok.iff h c
    refine aw_aload_n (n := 9) (i := 0) dX12_byteAt_8 rfl rfl rfl ?_
    refine aw_getR (n := 12) (j := 17) (r := 105) hG.1 fl_RX12_69 (sF_88 hS) rfl dX12_byteAt_9 rfl ?_
    refine aw_iload_n (n := 13) (i := 1) dX12_byteAt_12 rfl rfl rfl ?_
    obtain ⟨g_1, h⟩ := Ok.gd h
    refine aw_iaload (n := 14) hG.1 (sF_105 hS) (aIn_in g_1) dX12_byteAt_13 rfl ?_
    refine aw_goto (tgt := 18) dX12_byteAt_14 (by decide) ?_
    exact aw_iret rfl (by decide) (by decide) dX12_byteAt_18 ⟨_, rfl, rfl, (Ok.dn h :)⟩
theorem dX12_isLetter_0 : decode cX12_isLetter 0 = .ok (.iload_n 0, 1) := by decide +kernel
theorem dX12_isLetter_1 : decode cX12_isLetter 1 = .ok (.bipush 97, 2) := by decide +kernel
theorem dX12_isLetter_3 : decode cX12_isLetter 3 = .ok (.if_icmp .lt 13, 3) := by decide +kernel
theorem dX12_isLetter_6 : decode cX12_isLetter 6 = .ok (.iload_n 0, 1) := by decide +kernel
theorem dX12_isLetter_7 : decode cX12_isLetter 7 = .ok (.bipush 122, 2) := by decide +kernel
theorem dX12_isLetter_9 : decode cX12_isLetter 9 = .ok (.if_icmp .gt 7, 3) := by decide +kernel
theorem dX12_isLetter_12 : decode cX12_isLetter 12 = .ok (.iconst 1, 1) := by decide +kernel
theorem dX12_isLetter_13 : decode cX12_isLetter 13 = .ok (.goto 4, 3) := by decide +kernel
theorem dX12_isLetter_16 : decode cX12_isLetter 16 = .ok (.iconst 0, 1) := by decide +kernel
theorem dX12_isLetter_17 : decode cX12_isLetter 17 = .ok (.ireturn, 1) := by decide +kernel
def f_X12_isLetter (v0 : Int32) (D : aD) : Option (Int32 × aD) :=
  if v0 < 97 then (some (0, D)) else (if 122 < v0 then (some (0, D)) else (some (1, D)))
set_option maxRecDepth 100000 in
set_option maxHeartbeats 800000 in
theorem c_X12_isLetter {G : aG} (hG : gOK G) {shp : List aSh} (hS : aShp shp) {fr : Option Nat} {v0 : Int32} {D : aD} {K : Int32 → aD → Prop} (h : Ok2 (f_X12_isLetter v0 D) K) : AC G (aRm 1 0 0) M_X12_isLetter [.int v0] fr shp D (aQi shp K) := by
  replace h := Ok2.ok h
  unfold f_X12_isLetter at h
  refine AC.of (al := [some (.int v0)]) (r := 0) (by decide) (Nat.le_of_ble_eq_true rfl) rfl ?_
  refine aw_iload_n (n := 1) (i := 0) dX12_isLetter_0 rfl rfl rfl ?_
  refine aw_bipush (n := 3) (v := 97) dX12_isLetter_1 rfl (by decide) ?_
  refine aw_icmp_lt (n := 6) (tgt := 16) dX12_isLetter_3 rfl (by decide) (fun c => ?_) (fun c => ?_)
  · replace h := Ok.ift h c
    refine aw_iconst (n := 17) (v := 0) dX12_isLetter_16 rfl (by decide) ?_
    exact aw_zret rfl (by decide) (by decide) (by decide) dX12_isLetter_17 ⟨_, rfl, rfl, (Ok.dn h :)⟩
  · replace h := Ok.iff h c
    refine aw_iload_n (n := 7) (i := 0) dX12_isLetter_6 rfl rfl rfl ?_
    refine aw_bipush (n := 9) (v := 122) dX12_isLetter_7 rfl (by decide) ?_
    refine aw_icmp_gt (n := 12) (tgt := 16) dX12_isLetter_9 rfl (by decide) (fun c => ?_) (fun c => ?_)
    · replace h := Ok.ift h c
      refine aw_iconst (n := 17) (v := 0) dX12_isLetter_16 rfl (by decide) ?_
      exact aw_zret rfl (by decide) (by decide) (by decide) dX12_isLetter_17 ⟨_, rfl, rfl, (Ok.dn h :)⟩
    · replace h := Ok.iff h c
      refine aw_iconst (n := 13) (v := 1) dX12_isLetter_12 rfl (by decide) ?_
      refine aw_goto (tgt := 17) dX12_isLetter_13 (by decide) ?_
      exact aw_zret rfl (by decide) (by decide) (by decide) dX12_isLetter_17 ⟨_, rfl, rfl, (Ok.dn h :)⟩
theorem dX12_isDigit_0 : decode cX12_isDigit 0 = .ok (.iload_n 0, 1) := by decide +kernel
theorem dX12_isDigit_1 : decode cX12_isDigit 1 = .ok (.bipush 48, 2) := by decide +kernel
theorem dX12_isDigit_3 : decode cX12_isDigit 3 = .ok (.if_icmp .lt 13, 3) := by decide +kernel
theorem dX12_isDigit_6 : decode cX12_isDigit 6 = .ok (.iload_n 0, 1) := by decide +kernel
theorem dX12_isDigit_7 : decode cX12_isDigit 7 = .ok (.bipush 57, 2) := by decide +kernel
theorem dX12_isDigit_9 : decode cX12_isDigit 9 = .ok (.if_icmp .gt 7, 3) := by decide +kernel
theorem dX12_isDigit_12 : decode cX12_isDigit 12 = .ok (.iconst 1, 1) := by decide +kernel
theorem dX12_isDigit_13 : decode cX12_isDigit 13 = .ok (.goto 4, 3) := by decide +kernel
theorem dX12_isDigit_16 : decode cX12_isDigit 16 = .ok (.iconst 0, 1) := by decide +kernel
theorem dX12_isDigit_17 : decode cX12_isDigit 17 = .ok (.ireturn, 1) := by decide +kernel
def f_X12_isDigit (v0 : Int32) (D : aD) : Option (Int32 × aD) :=
  if v0 < 48 then (some (0, D)) else (if 57 < v0 then (some (0, D)) else (some (1, D)))
set_option maxRecDepth 100000 in
set_option maxHeartbeats 800000 in
theorem c_X12_isDigit {G : aG} (hG : gOK G) {shp : List aSh} (hS : aShp shp) {fr : Option Nat} {v0 : Int32} {D : aD} {K : Int32 → aD → Prop} (h : Ok2 (f_X12_isDigit v0 D) K) : AC G (aRm 1 0 0) M_X12_isDigit [.int v0] fr shp D (aQi shp K) := by
  replace h := Ok2.ok h
  unfold f_X12_isDigit at h
  refine AC.of (al := [some (.int v0)]) (r := 0) (by decide) (Nat.le_of_ble_eq_true rfl) rfl ?_
  refine aw_iload_n (n := 1) (i := 0) dX12_isDigit_0 rfl rfl rfl ?_
  refine aw_bipush (n := 3) (v := 48) dX12_isDigit_1 rfl (by decide) ?_
  refine aw_icmp_lt (n := 6) (tgt := 16) dX12_isDigit_3 rfl (by decide) (fun c => ?_) (fun c => ?_)
  · replace h := Ok.ift h c
    refine aw_iconst (n := 17) (v := 0) dX12_isDigit_16 rfl (by decide) ?_
    exact aw_zret rfl (by decide) (by decide) (by decide) dX12_isDigit_17 ⟨_, rfl, rfl, (Ok.dn h :)⟩
  · replace h := Ok.iff h c
    refine aw_iload_n (n := 7) (i := 0) dX12_isDigit_6 rfl rfl rfl ?_
    refine aw_bipush (n := 9) (v := 57) dX12_isDigit_7 rfl (by decide) ?_
    refine aw_icmp_gt (n := 12) (tgt := 16) dX12_isDigit_9 rfl (by decide) (fun c => ?_) (fun c => ?_)
    · replace h := Ok.ift h c
      refine aw_iconst (n := 17) (v := 0) dX12_isDigit_16 rfl (by decide) ?_
      exact aw_zret rfl (by decide) (by decide) (by decide) dX12_isDigit_17 ⟨_, rfl, rfl, (Ok.dn h :)⟩
    · replace h := Ok.iff h c
      refine aw_iconst (n := 13) (v := 1) dX12_isDigit_12 rfl (by decide) ?_
      refine aw_goto (tgt := 17) dX12_isDigit_13 (by decide) ?_
      exact aw_zret rfl (by decide) (by decide) (by decide) dX12_isDigit_17 ⟨_, rfl, rfl, (Ok.dn h :)⟩
theorem dX12_stepOn_0 : decode cX12_stepOn 0 = .ok (.aload_n 0, 1) := by decide +kernel
theorem dX12_stepOn_1 : decode cX12_stepOn 1 = .ok (.aload_n 0, 1) := by decide +kernel
theorem dX12_stepOn_2 : decode cX12_stepOn 2 = .ok (.getfield 170, 3) := by decide +kernel
theorem dX12_stepOn_5 : decode cX12_stepOn 5 = .ok (.invokevirtual 173, 3) := by decide +kernel
theorem dX12_stepOn_8 : decode cX12_stepOn 8 = .ok (.bipush 32, 2) := by decide +kernel
theorem dX12_stepOn_10 : decode cX12_stepOn 10 = .ok (.if_icmp .eq 16, 3) := by decide +kernel
theorem dX12_stepOn_13 : decode cX12_stepOn 13 = .ok (.aload_n 0, 1) := by decide +kernel
theorem dX12_stepOn_14 : decode cX12_stepOn 14 = .ok (.aload_n 0, 1) := by decide +kernel
theorem dX12_stepOn_15 : decode cX12_stepOn 15 = .ok (.getfield 170, 3) := by decide +kernel
theorem dX12_stepOn_18 : decode cX12_stepOn 18 = .ok (.invokevirtual 173, 3) := by decide +kernel
theorem dX12_stepOn_21 : decode cX12_stepOn 21 = .ok (.bipush 10, 2) := by decide +kernel
theorem dX12_stepOn_23 : decode cX12_stepOn 23 = .ok (.if_icmp .ne 16, 3) := by decide +kernel
theorem dX12_stepOn_26 : decode cX12_stepOn 26 = .ok (.aload_n 0, 1) := by decide +kernel
theorem dX12_stepOn_27 : decode cX12_stepOn 27 = .ok (.dup, 1) := by decide +kernel
theorem dX12_stepOn_28 : decode cX12_stepOn 28 = .ok (.getfield 170, 3) := by decide +kernel
theorem dX12_stepOn_31 : decode cX12_stepOn 31 = .ok (.iconst 1, 1) := by decide +kernel
theorem dX12_stepOn_32 : decode cX12_stepOn 32 = .ok (.iadd, 1) := by decide +kernel
theorem dX12_stepOn_33 : decode cX12_stepOn 33 = .ok (.putfield 170, 3) := by decide +kernel
theorem dX12_stepOn_36 : decode cX12_stepOn 36 = .ok (.goto (-36), 3) := by decide +kernel
theorem dX12_stepOn_39 : decode cX12_stepOn 39 = .ok (.aload_n 0, 1) := by decide +kernel
theorem dX12_stepOn_40 : decode cX12_stepOn 40 = .ok (.aload_n 0, 1) := by decide +kernel
theorem dX12_stepOn_41 : decode cX12_stepOn 41 = .ok (.getfield 170, 3) := by decide +kernel
theorem dX12_stepOn_44 : decode cX12_stepOn 44 = .ok (.putfield 177, 3) := by decide +kernel
theorem dX12_stepOn_47 : decode cX12_stepOn 47 = .ok (.aload_n 0, 1) := by decide +kernel
theorem dX12_stepOn_48 : decode cX12_stepOn 48 = .ok (.aload_n 0, 1) := by decide +kernel
theorem dX12_stepOn_49 : decode cX12_stepOn 49 = .ok (.getfield 170, 3) := by decide +kernel
theorem dX12_stepOn_52 : decode cX12_stepOn 52 = .ok (.invokevirtual 173, 3) := by decide +kernel
theorem dX12_stepOn_55 : decode cX12_stepOn 55 = .ok (.istore_n 1, 1) := by decide +kernel
theorem dX12_stepOn_56 : decode cX12_stepOn 56 = .ok (.iload_n 1, 1) := by decide +kernel
theorem dX12_stepOn_57 : decode cX12_stepOn 57 = .ok (.iconst (-1), 1) := by decide +kernel
theorem dX12_stepOn_58 : decode cX12_stepOn 58 = .ok (.if_icmp .ne 11, 3) := by decide +kernel
theorem dX12_stepOn_61 : decode cX12_stepOn 61 = .ok (.aload_n 0, 1) := by decide +kernel
theorem dX12_stepOn_62 : decode cX12_stepOn 62 = .ok (.iconst 0, 1) := by decide +kernel
theorem dX12_stepOn_63 : decode cX12_stepOn 63 = .ok (.putfield 180, 3) := by decide +kernel
theorem dX12_stepOn_66 : decode cX12_stepOn 66 = .ok (.goto 151, 3) := by decide +kernel
theorem dX12_stepOn_69 : decode cX12_stepOn 69 = .ok (.iload_n 1, 1) := by decide +kernel
theorem dX12_stepOn_70 : decode cX12_stepOn 70 = .ok (.invokestatic 183, 3) := by decide +kernel
theorem dX12_stepOn_73 : decode cX12_stepOn 73 = .ok (.ifCond .eq 38, 3) := by decide +kernel
theorem dX12_stepOn_76 : decode cX12_stepOn 76 = .ok (.aload_n 0, 1) := by decide +kernel
theorem dX12_stepOn_77 : decode cX12_stepOn 77 = .ok (.aload_n 0, 1) := by decide +kernel
theorem dX12_stepOn_78 : decode cX12_stepOn 78 = .ok (.getfield 170, 3) := by decide +kernel
theorem dX12_stepOn_81 : decode cX12_stepOn 81 = .ok (.invokevirtual 173, 3) := by decide +kernel
theorem dX12_stepOn_84 : decode cX12_stepOn 84 = .ok (.invokestatic 183, 3) := by decide +kernel
theorem dX12_stepOn_87 : decode cX12_stepOn 87 = .ok (.ifCond .eq 16, 3) := by decide +kernel
theorem dX12_stepOn_90 : decode cX12_stepOn 90 = .ok (.aload_n 0, 1) := by decide +kernel
theorem dX12_stepOn_91 : decode cX12_stepOn 91 = .ok (.dup, 1) := by decide +kernel
theorem dX12_stepOn_92 : decode cX12_stepOn 92 = .ok (.getfield 170, 3) := by decide +kernel
theorem dX12_stepOn_95 : decode cX12_stepOn 95 = .ok (.iconst 1, 1) := by decide +kernel
theorem dX12_stepOn_96 : decode cX12_stepOn 96 = .ok (.iadd, 1) := by decide +kernel
theorem dX12_stepOn_97 : decode cX12_stepOn 97 = .ok (.putfield 170, 3) := by decide +kernel
theorem dX12_stepOn_100 : decode cX12_stepOn 100 = .ok (.goto (-24), 3) := by decide +kernel
theorem dX12_stepOn_103 : decode cX12_stepOn 103 = .ok (.aload_n 0, 1) := by decide +kernel
theorem dX12_stepOn_104 : decode cX12_stepOn 104 = .ok (.iconst 1, 1) := by decide +kernel
theorem dX12_stepOn_105 : decode cX12_stepOn 105 = .ok (.putfield 180, 3) := by decide +kernel
theorem dX12_stepOn_108 : decode cX12_stepOn 108 = .ok (.goto 109, 3) := by decide +kernel
theorem dX12_stepOn_111 : decode cX12_stepOn 111 = .ok (.iload_n 1, 1) := by decide +kernel
theorem dX12_stepOn_112 : decode cX12_stepOn 112 = .ok (.invokestatic 187, 3) := by decide +kernel
theorem dX12_stepOn_115 : decode cX12_stepOn 115 = .ok (.ifCond .eq 71, 3) := by decide +kernel
theorem dX12_stepOn_118 : decode cX12_stepOn 118 = .ok (.aload_n 0, 1) := by decide +kernel
theorem dX12_stepOn_119 : decode cX12_stepOn 119 = .ok (.iconst 0, 1) := by decide +kernel
theorem dX12_stepOn_120 : decode cX12_stepOn 120 = .ok (.putfield 190, 3) := by decide +kernel
theorem dX12_stepOn_123 : decode cX12_stepOn 123 = .ok (.aload_n 0, 1) := by decide +kernel
theorem dX12_stepOn_124 : decode cX12_stepOn 124 = .ok (.aload_n 0, 1) := by decide +kernel
theorem dX12_stepOn_125 : decode cX12_stepOn 125 = .ok (.getfield 170, 3) := by decide +kernel
theorem dX12_stepOn_128 : decode cX12_stepOn 128 = .ok (.invokevirtual 173, 3) := by decide +kernel
theorem dX12_stepOn_131 : decode cX12_stepOn 131 = .ok (.invokestatic 187, 3) := by decide +kernel
theorem dX12_stepOn_134 : decode cX12_stepOn 134 = .ok (.ifCond .eq 44, 3) := by decide +kernel
theorem dX12_stepOn_137 : decode cX12_stepOn 137 = .ok (.aload_n 0, 1) := by decide +kernel
theorem dX12_stepOn_138 : decode cX12_stepOn 138 = .ok (.ldc 193, 2) := by decide +kernel
theorem dX12_stepOn_140 : decode cX12_stepOn 140 = .ok (.bipush 10, 2) := by decide +kernel
theorem dX12_stepOn_142 : decode cX12_stepOn 142 = .ok (.aload_n 0, 1) := by decide +kernel
theorem dX12_stepOn_143 : decode cX12_stepOn 143 = .ok (.getfield 190, 3) := by decide +kernel
theorem dX12_stepOn_146 : decode cX12_stepOn 146 = .ok (.imul, 1) := by decide +kernel
theorem dX12_stepOn_147 : decode cX12_stepOn 147 = .ok (.aload_n 0, 1) := by decide +kernel
theorem dX12_stepOn_148 : decode cX12_stepOn 148 = .ok (.aload_n 0, 1) := by decide +kernel
theorem dX12_stepOn_149 : decode cX12_stepOn 149 = .ok (.getfield 170, 3) := by decide +kernel
theorem dX12_stepOn_152 : decode cX12_stepOn 152 = .ok (.invokevirtual 173, 3) := by decide +kernel
theorem dX12_stepOn_155 : decode cX12_stepOn 155 = .ok (.iadd, 1) := by decide +kernel
theorem dX12_stepOn_156 : decode cX12_stepOn 156 = .ok (.bipush 48, 2) := by decide +kernel
theorem dX12_stepOn_158 : decode cX12_stepOn 158 = .ok (.isub, 1) := by decide +kernel
theorem dX12_stepOn_159 : decode cX12_stepOn 159 = .ok (.invokestatic 194, 3) := by decide +kernel
theorem dX12_stepOn_162 : decode cX12_stepOn 162 = .ok (.putfield 190, 3) := by decide +kernel
theorem dX12_stepOn_165 : decode cX12_stepOn 165 = .ok (.aload_n 0, 1) := by decide +kernel
theorem dX12_stepOn_166 : decode cX12_stepOn 166 = .ok (.dup, 1) := by decide +kernel
theorem dX12_stepOn_167 : decode cX12_stepOn 167 = .ok (.getfield 170, 3) := by decide +kernel
theorem dX12_stepOn_170 : decode cX12_stepOn 170 = .ok (.iconst 1, 1) := by decide +kernel
theorem dX12_stepOn_171 : decode cX12_stepOn 171 = .ok (.iadd, 1) := by decide +kernel
theorem dX12_stepOn_172 : decode cX12_stepOn 172 = .ok (.putfield 170, 3) := by decide +kernel
theorem dX12_stepOn_175 : decode cX12_stepOn 175 = .ok (.goto (-52), 3) := by decide +kernel
theorem dX12_stepOn_178 : decode cX12_stepOn 178 = .ok (.aload_n 0, 1) := by decide +kernel
theorem dX12_stepOn_179 : decode cX12_stepOn 179 = .ok (.iconst 2, 1) := by decide +kernel
theorem dX12_stepOn_180 : decode cX12_stepOn 180 = .ok (.putfield 180, 3) := by decide +kernel
theorem dX12_stepOn_183 : decode cX12_stepOn 183 = .ok (.goto 34, 3) := by decide +kernel
theorem dX12_stepOn_186 : decode cX12_stepOn 186 = .ok (.aload_n 0, 1) := by decide +kernel
theorem dX12_stepOn_187 : decode cX12_stepOn 187 = .ok (.dup, 1) := by decide +kernel
theorem dX12_stepOn_188 : decode cX12_stepOn 188 = .ok (.getfield 170, 3) := by decide +kernel
theorem dX12_stepOn_191 : decode cX12_stepOn 191 = .ok (.iconst 1, 1) := by decide +kernel
theorem dX12_stepOn_192 : decode cX12_stepOn 192 = .ok (.iadd, 1) := by decide +kernel
theorem dX12_stepOn_193 : decode cX12_stepOn 193 = .ok (.putfield 170, 3) := by decide +kernel
theorem dX12_stepOn_196 : decode cX12_stepOn 196 = .ok (.aload_n 0, 1) := by decide +kernel
theorem dX12_stepOn_197 : decode cX12_stepOn 197 = .ok (.iload_n 1, 1) := by decide +kernel
theorem dX12_stepOn_198 : decode cX12_stepOn 198 = .ok (.bipush 59, 2) := by decide +kernel
theorem dX12_stepOn_200 : decode cX12_stepOn 200 = .ok (.if_icmp .eq 9, 3) := by decide +kernel
theorem dX12_stepOn_203 : decode cX12_stepOn 203 = .ok (.iload_n 1, 1) := by decide +kernel
theorem dX12_stepOn_204 : decode cX12_stepOn 204 = .ok (.bipush 45, 2) := by decide +kernel
theorem dX12_stepOn_206 : decode cX12_stepOn 206 = .ok (.if_icmp .ne 7, 3) := by decide +kernel
theorem dX12_stepOn_209 : decode cX12_stepOn 209 = .ok (.iconst 3, 1) := by decide +kernel
theorem dX12_stepOn_210 : decode cX12_stepOn 210 = .ok (.goto 4, 3) := by decide +kernel
theorem dX12_stepOn_213 : decode cX12_stepOn 213 = .ok (.iconst 4, 1) := by decide +kernel
theorem dX12_stepOn_214 : decode cX12_stepOn 214 = .ok (.putfield 180, 3) := by decide +kernel
theorem dX12_stepOn_217 : decode cX12_stepOn 217 = .ok (.aload_n 0, 1) := by decide +kernel
theorem dX12_stepOn_218 : decode cX12_stepOn 218 = .ok (.aload_n 0, 1) := by decide +kernel
theorem dX12_stepOn_219 : decode cX12_stepOn 219 = .ok (.getfield 170, 3) := by decide +kernel
theorem dX12_stepOn_222 : decode cX12_stepOn 222 = .ok (.putfield 200, 3) := by decide +kernel
theorem dX12_stepOn_225 : decode cX12_stepOn 225 = .ok (.return_, 1) := by decide +kernel
def J_X12_stepOn_209 (D : aD) : Option (aD) :=
  aLet (pI D 88 21 3) (fun D_12 => aLet (pI D_12 88 24 (gI D_12 88 19)) (fun D_13 => some D_13))
def J_X12_stepOn_178 (D : aD) : Option (aD) :=
  aLet (pI D 88 21 2) (fun D_17 => aLet (pI D_17 88 24 (gI D_17 88 19)) (fun D_18 => some D_18))
def B_X12_stepOn_123 (D : aD) : Option ((aD) ⊕ ((aD))) :=
  aBi (f_X12_byteAt (gI D 88 19) D) (fun y_19 D_20 => aBi (f_X12_isDigit y_19 D_20) (fun y_21 D_22 => if y_21 = 0 then (some (.inr D_22)) else (aBi (f_X12_byteAt (gI D_22 88 19) D_22) (fun y_23 D_24 => aLet (pI D_24 88 22 (if (((10 * (gI D_22 88 22)) + y_23) - 48) < 100000 then (((10 * (gI D_22 88 22)) + y_23) - 48) else 100000)) (fun D_25 => aLet (pI D_25 88 19 ((gI D_25 88 19) + 1)) (fun D_26 => some (.inl D_26)))))))
def J_X12_stepOn_123 (D : aD) : Option (aD) :=
  (aLp (fun s => B_X12_stepOn_123 s) D).bind (fun r => J_X12_stepOn_178 r)
def J_X12_stepOn_103 (D : aD) : Option (aD) :=
  aLet (pI D 88 21 1) (fun D_27 => aLet (pI D_27 88 24 (gI D_27 88 19)) (fun D_28 => some D_28))
def B_X12_stepOn_76 (D : aD) : Option ((aD) ⊕ ((aD))) :=
  aBi (f_X12_byteAt (gI D 88 19) D) (fun y_29 D_30 => aBi (f_X12_isLetter y_29 D_30) (fun y_31 D_32 => if y_31 = 0 then (some (.inr D_32)) else (aLet (pI D_32 88 19 ((gI D_32 88 19) + 1)) (fun D_33 => some (.inl D_33)))))
def J_X12_stepOn_76 (D : aD) : Option (aD) :=
  (aLp (fun s => B_X12_stepOn_76 s) D).bind (fun r => J_X12_stepOn_103 r)
def J_X12_stepOn_39 (D : aD) : Option (aD) :=
  aLet (pI D 88 23 (gI D 88 19)) (fun D_4 => aBi (f_X12_byteAt (gI D_4 88 19) D_4) (fun y_5 D_6 => if y_5 ≠ (-1) then (aBi (f_X12_isLetter y_5 D_6) (fun y_7 D_8 => if y_7 = 0 then (aBi (f_X12_isDigit y_5 D_8) (fun y_9 D_10 => if y_9 = 0 then (aLet (pI D_10 88 19 ((gI D_10 88 19) + 1)) (fun D_11 => if y_5 = 59 then (J_X12_stepOn_209 D_11) else (if y_5 ≠ 45 then (aLet (pI D_11 88 21 4) (fun D_14 => aLet (pI D_14 88 24 (gI D_14 88 19)) (fun D_15 => some D_15))) else (J_X12_stepOn_209 D_11)))) else (aLet (pI D_10 88 22 0) (fun D_16 => J_X12_stepOn_123 D_16)))) else (J_X12_stepOn_76 D_8))) else (aLet (pI D_6 88 21 0) (fun D_34 => aLet (pI D_34 88 24 (gI D_34 88 19)) (fun D_35 => some D_35)))))
def B_X12_stepOn_0 (D : aD) : Option ((aD) ⊕ ((aD))) :=
  aBi (f_X12_byteAt (gI D 88 19) D) (fun y_36 D_37 => if y_36 = 32 then (aLet (pI D_37 88 19 ((gI D_37 88 19) + 1)) (fun D_38 => some (.inl D_38))) else (aBi (f_X12_byteAt (gI D_37 88 19) D_37) (fun y_39 D_40 => if y_39 ≠ 10 then (some (.inr D_40)) else (aLet (pI D_40 88 19 ((gI D_40 88 19) + 1)) (fun D_41 => some (.inl D_41))))))
def J_X12_stepOn_0 (D : aD) : Option (aD) :=
  (aLp (fun s => B_X12_stepOn_0 s) D).bind (fun r => J_X12_stepOn_39 r)
def f_X12_stepOn (D : aD) : Option (aD) :=
  aBi (f_X12_byteAt (gI D 88 19) D) (fun y_1 D_2 => if y_1 = 32 then (aLet (pI D_2 88 19 ((gI D_2 88 19) + 1)) (fun D_3 => J_X12_stepOn_0 D_3)) else (aBi (f_X12_byteAt (gI D_2 88 19) D_2) (fun y_42 D_43 => if y_42 ≠ 10 then (J_X12_stepOn_39 D_43) else (aLet (pI D_43 88 19 ((gI D_43 88 19) + 1)) (fun D_44 => J_X12_stepOn_0 D_44)))))
set_option maxRecDepth 100000 in
set_option maxHeartbeats 800000 in
theorem c_X12_stepOn {G : aG} (hG : gOK G) {shp : List aSh} (hS : aShp shp) {fr : Option Nat} {D : aD} {K : aD → Prop} (h : Ok (f_X12_stepOn D) K) : AC G (aRm 2 0 0) M_X12_stepOn [.ref 88] fr shp D (aQv shp K) := by
  unfold f_X12_stepOn at h
  refine AC.of (al := [some (.ref 88), none]) (r := 1) (by decide) (Nat.le_of_ble_eq_true rfl) rfl ?_
  have hJ_209 : ∀ (D : aD), Ok (J_X12_stepOn_209 D) K → AW G (aRm 2 0 0) M_X12_stepOn fr 0 0 209 [some (.ref 88), none] [.ref 88] shp D (aQv shp K) := by
    intro D h
    unfold J_X12_stepOn_209 at h
    refine aw_iconst (n := 210) (v := 3) dX12_stepOn_209 rfl (by decide) ?_
    refine aw_goto (tgt := 214) dX12_stepOn_210 (by decide) ?_
    obtain ⟨D_12, e_D_12, h⟩ := Ok.let_ h
    refine aw_putI (n := 217) (j := 21) hG.1 fl_RX12_180 (sF_88 hS) rfl e_D_12 dX12_stepOn_214 rfl ?_
    refine aw_aload_n (n := 218) (i := 0) dX12_stepOn_217 rfl rfl rfl ?_
    refine aw_aload_n (n := 219) (i := 0) dX12_stepOn_218 rfl rfl rfl ?_
    refine aw_getI (n := 222) (j := 19) hG.1 fl_RX12_170 (sF_88 hS) rfl dX12_stepOn_219 rfl ?_
    obtain ⟨D_13, e_D_13, h⟩ := Ok.let_ h
    refine aw_putI (n := 225) (j := 24) hG.1 fl_RX12_200 (sF_88 hS) rfl e_D_13 dX12_stepOn_222 rfl ?_
    exact aw_vret rfl (by decide) (by decide) dX12_stepOn_225 ⟨rfl, rfl, (Ok.dn h :)⟩
  have hJ_178 : ∀ (D : aD), Ok (J_X12_stepOn_178 D) K → AW G (aRm 2 0 0) M_X12_stepOn fr 0 0 178 [some (.ref 88), none] [] shp D (aQv shp K) := by
    intro D h
    unfold J_X12_stepOn_178 at h
    refine aw_aload_n (n := 179) (i := 0) dX12_stepOn_178 rfl rfl rfl ?_
    refine aw_iconst (n := 180) (v := 2) dX12_stepOn_179 rfl (by decide) ?_
    obtain ⟨D_17, e_D_17, h⟩ := Ok.let_ h
    refine aw_putI (n := 183) (j := 21) hG.1 fl_RX12_180 (sF_88 hS) rfl e_D_17 dX12_stepOn_180 rfl ?_
    refine aw_goto (tgt := 217) dX12_stepOn_183 (by decide) ?_
    refine aw_aload_n (n := 218) (i := 0) dX12_stepOn_217 rfl rfl rfl ?_
    refine aw_aload_n (n := 219) (i := 0) dX12_stepOn_218 rfl rfl rfl ?_
    refine aw_getI (n := 222) (j := 19) hG.1 fl_RX12_170 (sF_88 hS) rfl dX12_stepOn_219 rfl ?_
    obtain ⟨D_18, e_D_18, h⟩ := Ok.let_ h
    refine aw_putI (n := 225) (j := 24) hG.1 fl_RX12_200 (sF_88 hS) rfl e_D_18 dX12_stepOn_222 rfl ?_
    exact aw_vret rfl (by decide) (by decide) dX12_stepOn_225 ⟨rfl, rfl, (Ok.dn h :)⟩
  have hJ_123 : ∀ (D : aD), Ok (J_X12_stepOn_123 D) K → AW G (aRm 2 0 0) M_X12_stepOn fr 0 0 123 [some (.ref 88), none] [] shp D (aQv shp K) := by
    intro D h
    unfold J_X12_stepOn_123 at h
    refine Ok.lp (P := fun s => AW G (aRm 2 0 0) M_X12_stepOn fr 0 0 123 [some (.ref 88), none] [] shp s (aQv shp K)) (fun s Kb123 hL123 hR123 h => ?_) D (Ok.bind h)
    obtain ⟨D, rfl⟩ : ∃ z, z = s := ⟨s, rfl⟩
    replace h : Ok (B_X12_stepOn_123 D) Kb123 := h
    unfold B_X12_stepOn_123 at h
    refine aw_aload_n (n := 124) (i := 0) dX12_stepOn_123 rfl rfl rfl ?_
    refine aw_aload_n (n := 125) (i := 0) dX12_stepOn_124 rfl rfl rfl ?_
    refine aw_getI (n := 128) (j := 19) hG.1 fl_RX12_170 (sF_88 hS) rfl dX12_stepOn_125 rfl ?_
    refine aw_cVi (M := M_X12_stepOn) (n := 131) (As := [.int (gI D 88 19)]) (rest := []) hG.1 lk_RX12_173 rfl rfl (sF_88 hS) (c_X12_byteAt hG hS (h := Ok.bi h)) (by decide) (Nat.le_of_ble_eq_true rfl) (by decide) (by decide) dX12_stepOn_128 rfl (fun y_19 D_20 h => ?_)
    refine aw_cSi (M := M_X12_stepOn) (n := 134) (As := [.int y_19]) (rest := []) lk_RX12_187 rfl rfl (c_X12_isDigit hG hS (h := Ok.bi h)) (by decide) (Nat.le_of_ble_eq_true rfl) (by decide) (by decide) dX12_stepOn_131 rfl (fun y_21 D_22 h => ?_)
    refine aw_if_eq (n := 137) (tgt := 178) dX12_stepOn_134 rfl (by decide) (fun c => ?_) (fun c => ?_)
    · replace h := Ok.ift h c
      exact aw_le' (hJ_178 D_22 (hR123 D_22 (Ok.dn h :))) ⟨rfl, trivial⟩
    · replace h := Ok.iff h c
      refine aw_aload_n (n := 138) (i := 0) dX12_stepOn_137 rfl rfl rfl ?_
      refine aw_ldcI (M := M_X12_stepOn) (n := 140) (v := 100000) dX12_stepOn_138 rfl kc_RX12_193 ?_
      refine aw_bipush (n := 142) (v := 10) dX12_stepOn_140 rfl (by decide) ?_
      refine aw_aload_n (n := 143) (i := 0) dX12_stepOn_142 rfl rfl rfl ?_
      refine aw_getI (n := 146) (j := 22) hG.1 fl_RX12_190 (sF_88 hS) rfl dX12_stepOn_143 rfl ?_
      refine aw_imul (n := 147) dX12_stepOn_146 rfl ?_
      refine aw_aload_n (n := 148) (i := 0) dX12_stepOn_147 rfl rfl rfl ?_
      refine aw_aload_n (n := 149) (i := 0) dX12_stepOn_148 rfl rfl rfl ?_
      refine aw_getI (n := 152) (j := 19) hG.1 fl_RX12_170 (sF_88 hS) rfl dX12_stepOn_149 rfl ?_
      refine aw_cVi (M := M_X12_stepOn) (n := 155) (As := [.int (gI D_22 88 19)]) (rest := [.int (10 * (gI D_22 88 22)), .int 100000, .ref 88]) hG.1 lk_RX12_173 rfl rfl (sF_88 hS) (c_X12_byteAt hG hS (h := Ok.bi h)) (by decide) (Nat.le_of_ble_eq_true rfl) (by decide) (by decide) dX12_stepOn_152 rfl (fun y_23 D_24 h => ?_)
      refine aw_iadd (n := 156) dX12_stepOn_155 rfl ?_
      refine aw_bipush (n := 158) (v := 48) dX12_stepOn_156 rfl (by decide) ?_
      refine aw_isub (n := 159) dX12_stepOn_158 rfl ?_
      refine aw_min (M := M_X12_stepOn) (n := 162) lm_RX12_194 mm_min.1 mm_min.2.1 mm_min.2.2 (by decide) (Nat.le_of_ble_eq_true rfl) (by decide) (by decide) dX12_stepOn_159 rfl ?_
      obtain ⟨D_25, e_D_25, h⟩ := Ok.let_ h
      refine aw_putI (n := 165) (j := 22) hG.1 fl_RX12_190 (sF_88 hS) rfl e_D_25 dX12_stepOn_162 rfl ?_
      refine aw_aload_n (n := 166) (i := 0) dX12_stepOn_165 rfl rfl rfl ?_
      refine aw_dup (n := 167) dX12_stepOn_166 rfl rfl ?_
      refine aw_getI (n := 170) (j := 19) hG.1 fl_RX12_170 (sF_88 hS) rfl dX12_stepOn_167 rfl ?_
      refine aw_iconst (n := 171) (v := 1) dX12_stepOn_170 rfl (by decide) ?_
      refine aw_iadd (n := 172) dX12_stepOn_171 rfl ?_
      obtain ⟨D_26, e_D_26, h⟩ := Ok.let_ h
      refine aw_putI (n := 175) (j := 19) hG.1 fl_RX12_170 (sF_88 hS) rfl e_D_26 dX12_stepOn_172 rfl ?_
      refine aw_goto (tgt := 123) dX12_stepOn_175 (by decide) ?_
      exact aw_le' (hL123 D_26 (Ok.dn h :)) ⟨rfl, trivial⟩
  have hJ_103 : ∀ (D : aD), Ok (J_X12_stepOn_103 D) K → AW G (aRm 2 0 0) M_X12_stepOn fr 0 0 103 [some (.ref 88), none] [] shp D (aQv shp K) := by
    intro D h
    unfold J_X12_stepOn_103 at h
    refine aw_aload_n (n := 104) (i := 0) dX12_stepOn_103 rfl rfl rfl ?_
    refine aw_iconst (n := 105) (v := 1) dX12_stepOn_104 rfl (by decide) ?_
    obtain ⟨D_27, e_D_27, h⟩ := Ok.let_ h
    refine aw_putI (n := 108) (j := 21) hG.1 fl_RX12_180 (sF_88 hS) rfl e_D_27 dX12_stepOn_105 rfl ?_
    refine aw_goto (tgt := 217) dX12_stepOn_108 (by decide) ?_
    refine aw_aload_n (n := 218) (i := 0) dX12_stepOn_217 rfl rfl rfl ?_
    refine aw_aload_n (n := 219) (i := 0) dX12_stepOn_218 rfl rfl rfl ?_
    refine aw_getI (n := 222) (j := 19) hG.1 fl_RX12_170 (sF_88 hS) rfl dX12_stepOn_219 rfl ?_
    obtain ⟨D_28, e_D_28, h⟩ := Ok.let_ h
    refine aw_putI (n := 225) (j := 24) hG.1 fl_RX12_200 (sF_88 hS) rfl e_D_28 dX12_stepOn_222 rfl ?_
    exact aw_vret rfl (by decide) (by decide) dX12_stepOn_225 ⟨rfl, rfl, (Ok.dn h :)⟩
  have hJ_76 : ∀ (D : aD), Ok (J_X12_stepOn_76 D) K → AW G (aRm 2 0 0) M_X12_stepOn fr 0 0 76 [some (.ref 88), none] [] shp D (aQv shp K) := by
    intro D h
    unfold J_X12_stepOn_76 at h
    refine Ok.lp (P := fun s => AW G (aRm 2 0 0) M_X12_stepOn fr 0 0 76 [some (.ref 88), none] [] shp s (aQv shp K)) (fun s Kb76 hL76 hR76 h => ?_) D (Ok.bind h)
    obtain ⟨D, rfl⟩ : ∃ z, z = s := ⟨s, rfl⟩
    replace h : Ok (B_X12_stepOn_76 D) Kb76 := h
    unfold B_X12_stepOn_76 at h
    refine aw_aload_n (n := 77) (i := 0) dX12_stepOn_76 rfl rfl rfl ?_
    refine aw_aload_n (n := 78) (i := 0) dX12_stepOn_77 rfl rfl rfl ?_
    refine aw_getI (n := 81) (j := 19) hG.1 fl_RX12_170 (sF_88 hS) rfl dX12_stepOn_78 rfl ?_
    refine aw_cVi (M := M_X12_stepOn) (n := 84) (As := [.int (gI D 88 19)]) (rest := []) hG.1 lk_RX12_173 rfl rfl (sF_88 hS) (c_X12_byteAt hG hS (h := Ok.bi h)) (by decide) (Nat.le_of_ble_eq_true rfl) (by decide) (by decide) dX12_stepOn_81 rfl (fun y_29 D_30 h => ?_)
    refine aw_cSi (M := M_X12_stepOn) (n := 87) (As := [.int y_29]) (rest := []) lk_RX12_183 rfl rfl (c_X12_isLetter hG hS (h := Ok.bi h)) (by decide) (Nat.le_of_ble_eq_true rfl) (by decide) (by decide) dX12_stepOn_84 rfl (fun y_31 D_32 h => ?_)
    refine aw_if_eq (n := 90) (tgt := 103) dX12_stepOn_87 rfl (by decide) (fun c => ?_) (fun c => ?_)
    · replace h := Ok.ift h c
      exact aw_le' (hJ_103 D_32 (hR76 D_32 (Ok.dn h :))) ⟨rfl, trivial⟩
    · replace h := Ok.iff h c
      refine aw_aload_n (n := 91) (i := 0) dX12_stepOn_90 rfl rfl rfl ?_
      refine aw_dup (n := 92) dX12_stepOn_91 rfl rfl ?_
      refine aw_getI (n := 95) (j := 19) hG.1 fl_RX12_170 (sF_88 hS) rfl dX12_stepOn_92 rfl ?_
      refine aw_iconst (n := 96) (v := 1) dX12_stepOn_95 rfl (by decide) ?_
      refine aw_iadd (n := 97) dX12_stepOn_96 rfl ?_
      obtain ⟨D_33, e_D_33, h⟩ := Ok.let_ h
      refine aw_putI (n := 100) (j := 19) hG.1 fl_RX12_170 (sF_88 hS) rfl e_D_33 dX12_stepOn_97 rfl ?_
      refine aw_goto (tgt := 76) dX12_stepOn_100 (by decide) ?_
      exact aw_le' (hL76 D_33 (Ok.dn h :)) ⟨rfl, trivial⟩
  have hJ_39 : ∀ (D : aD), Ok (J_X12_stepOn_39 D) K → AW G (aRm 2 0 0) M_X12_stepOn fr 0 0 39 [some (.ref 88), none] [] shp D (aQv shp K) := by
    intro D h
    unfold J_X12_stepOn_39 at h
    refine aw_aload_n (n := 40) (i := 0) dX12_stepOn_39 rfl rfl rfl ?_
    refine aw_aload_n (n := 41) (i := 0) dX12_stepOn_40 rfl rfl rfl ?_
    refine aw_getI (n := 44) (j := 19) hG.1 fl_RX12_170 (sF_88 hS) rfl dX12_stepOn_41 rfl ?_
    obtain ⟨D_4, e_D_4, h⟩ := Ok.let_ h
    refine aw_putI (n := 47) (j := 23) hG.1 fl_RX12_177 (sF_88 hS) rfl e_D_4 dX12_stepOn_44 rfl ?_
    refine aw_aload_n (n := 48) (i := 0) dX12_stepOn_47 rfl rfl rfl ?_
    refine aw_aload_n (n := 49) (i := 0) dX12_stepOn_48 rfl rfl rfl ?_
    refine aw_getI (n := 52) (j := 19) hG.1 fl_RX12_170 (sF_88 hS) rfl dX12_stepOn_49 rfl ?_
    refine aw_cVi (M := M_X12_stepOn) (n := 55) (As := [.int (gI D_4 88 19)]) (rest := []) hG.1 lk_RX12_173 rfl rfl (sF_88 hS) (c_X12_byteAt hG hS (h := Ok.bi h)) (by decide) (Nat.le_of_ble_eq_true rfl) (by decide) (by decide) dX12_stepOn_52 rfl (fun y_5 D_6 h => ?_)
    refine aw_istore_n (n := 56) (i := 1) (al' := [some (.ref 88), some (.int y_5)]) dX12_stepOn_55 rfl rfl rfl (by decide) rfl ?_
    refine aw_iload_n (n := 57) (i := 1) dX12_stepOn_56 rfl rfl rfl ?_
    refine aw_iconst (n := 58) (v := (-1)) dX12_stepOn_57 rfl (by decide) ?_
    refine aw_icmp_ne (n := 61) (tgt := 69) dX12_stepOn_58 rfl (by decide) (fun c => ?_) (fun c => ?_)
    · replace h := Ok.ift h c
      refine aw_iload_n (n := 70) (i := 1) dX12_stepOn_69 rfl rfl rfl ?_
      refine aw_cSi (M := M_X12_stepOn) (n := 73) (As := [.int y_5]) (rest := []) lk_RX12_183 rfl rfl (c_X12_isLetter hG hS (h := Ok.bi h)) (by decide) (Nat.le_of_ble_eq_true rfl) (by decide) (by decide) dX12_stepOn_70 rfl (fun y_7 D_8 h => ?_)
      refine aw_if_eq (n := 76) (tgt := 111) dX12_stepOn_73 rfl (by decide) (fun c => ?_) (fun c => ?_)
      · replace h := Ok.ift h c
        refine aw_iload_n (n := 112) (i := 1) dX12_stepOn_111 rfl rfl rfl ?_
        refine aw_cSi (M := M_X12_stepOn) (n := 115) (As := [.int y_5]) (rest := []) lk_RX12_187 rfl rfl (c_X12_isDigit hG hS (h := Ok.bi h)) (by decide) (Nat.le_of_ble_eq_true rfl) (by decide) (by decide) dX12_stepOn_112 rfl (fun y_9 D_10 h => ?_)
        refine aw_if_eq (n := 118) (tgt := 186) dX12_stepOn_115 rfl (by decide) (fun c => ?_) (fun c => ?_)
        · replace h := Ok.ift h c
          refine aw_aload_n (n := 187) (i := 0) dX12_stepOn_186 rfl rfl rfl ?_
          refine aw_dup (n := 188) dX12_stepOn_187 rfl rfl ?_
          refine aw_getI (n := 191) (j := 19) hG.1 fl_RX12_170 (sF_88 hS) rfl dX12_stepOn_188 rfl ?_
          refine aw_iconst (n := 192) (v := 1) dX12_stepOn_191 rfl (by decide) ?_
          refine aw_iadd (n := 193) dX12_stepOn_192 rfl ?_
          obtain ⟨D_11, e_D_11, h⟩ := Ok.let_ h
          refine aw_putI (n := 196) (j := 19) hG.1 fl_RX12_170 (sF_88 hS) rfl e_D_11 dX12_stepOn_193 rfl ?_
          refine aw_aload_n (n := 197) (i := 0) dX12_stepOn_196 rfl rfl rfl ?_
          refine aw_iload_n (n := 198) (i := 1) dX12_stepOn_197 rfl rfl rfl ?_
          refine aw_bipush (n := 200) (v := 59) dX12_stepOn_198 rfl (by decide) ?_
          refine aw_icmp_eq (n := 203) (tgt := 209) dX12_stepOn_200 rfl (by decide) (fun c => ?_) (fun c => ?_)
          · replace h := Ok.ift h c
            exact aw_le' (hJ_209 D_11 h) ⟨rfl, trivial⟩
          · replace h := Ok.iff h c
            refine aw_iload_n (n := 204) (i := 1) dX12_stepOn_203 rfl rfl rfl ?_
            refine aw_bipush (n := 206) (v := 45) dX12_stepOn_204 rfl (by decide) ?_
            refine aw_icmp_ne (n := 209) (tgt := 213) dX12_stepOn_206 rfl (by decide) (fun c => ?_) (fun c => ?_)
            · replace h := Ok.ift h c
              refine aw_iconst (n := 214) (v := 4) dX12_stepOn_213 rfl (by decide) ?_
              obtain ⟨D_14, e_D_14, h⟩ := Ok.let_ h
              refine aw_putI (n := 217) (j := 21) hG.1 fl_RX12_180 (sF_88 hS) rfl e_D_14 dX12_stepOn_214 rfl ?_
              refine aw_aload_n (n := 218) (i := 0) dX12_stepOn_217 rfl rfl rfl ?_
              refine aw_aload_n (n := 219) (i := 0) dX12_stepOn_218 rfl rfl rfl ?_
              refine aw_getI (n := 222) (j := 19) hG.1 fl_RX12_170 (sF_88 hS) rfl dX12_stepOn_219 rfl ?_
              obtain ⟨D_15, e_D_15, h⟩ := Ok.let_ h
              refine aw_putI (n := 225) (j := 24) hG.1 fl_RX12_200 (sF_88 hS) rfl e_D_15 dX12_stepOn_222 rfl ?_
              exact aw_vret rfl (by decide) (by decide) dX12_stepOn_225 ⟨rfl, rfl, (Ok.dn h :)⟩
            · replace h := Ok.iffn h c
              exact aw_le' (hJ_209 D_11 h) ⟨rfl, trivial⟩
        · replace h := Ok.iff h c
          refine aw_aload_n (n := 119) (i := 0) dX12_stepOn_118 rfl rfl rfl ?_
          refine aw_iconst (n := 120) (v := 0) dX12_stepOn_119 rfl (by decide) ?_
          obtain ⟨D_16, e_D_16, h⟩ := Ok.let_ h
          refine aw_putI (n := 123) (j := 22) hG.1 fl_RX12_190 (sF_88 hS) rfl e_D_16 dX12_stepOn_120 rfl ?_
          exact aw_le' (hJ_123 D_16 h) ⟨rfl, trivial⟩
      · replace h := Ok.iff h c
        exact aw_le' (hJ_76 D_8 h) ⟨rfl, trivial⟩
    · replace h := Ok.iffn h c
      refine aw_aload_n (n := 62) (i := 0) dX12_stepOn_61 rfl rfl rfl ?_
      refine aw_iconst (n := 63) (v := 0) dX12_stepOn_62 rfl (by decide) ?_
      obtain ⟨D_34, e_D_34, h⟩ := Ok.let_ h
      refine aw_putI (n := 66) (j := 21) hG.1 fl_RX12_180 (sF_88 hS) rfl e_D_34 dX12_stepOn_63 rfl ?_
      refine aw_goto (tgt := 217) dX12_stepOn_66 (by decide) ?_
      refine aw_aload_n (n := 218) (i := 0) dX12_stepOn_217 rfl rfl rfl ?_
      refine aw_aload_n (n := 219) (i := 0) dX12_stepOn_218 rfl rfl rfl ?_
      refine aw_getI (n := 222) (j := 19) hG.1 fl_RX12_170 (sF_88 hS) rfl dX12_stepOn_219 rfl ?_
      obtain ⟨D_35, e_D_35, h⟩ := Ok.let_ h
      refine aw_putI (n := 225) (j := 24) hG.1 fl_RX12_200 (sF_88 hS) rfl e_D_35 dX12_stepOn_222 rfl ?_
      exact aw_vret rfl (by decide) (by decide) dX12_stepOn_225 ⟨rfl, rfl, (Ok.dn h :)⟩
  have hJ_0 : ∀ (D : aD), Ok (J_X12_stepOn_0 D) K → AW G (aRm 2 0 0) M_X12_stepOn fr 0 0 0 [some (.ref 88), none] [] shp D (aQv shp K) := by
    intro D h
    unfold J_X12_stepOn_0 at h
    refine Ok.lp (P := fun s => AW G (aRm 2 0 0) M_X12_stepOn fr 0 0 0 [some (.ref 88), none] [] shp s (aQv shp K)) (fun s Kb0 hL0 hR0 h => ?_) D (Ok.bind h)
    obtain ⟨D, rfl⟩ : ∃ z, z = s := ⟨s, rfl⟩
    replace h : Ok (B_X12_stepOn_0 D) Kb0 := h
    unfold B_X12_stepOn_0 at h
    refine aw_aload_n (n := 1) (i := 0) dX12_stepOn_0 rfl rfl rfl ?_
    refine aw_aload_n (n := 2) (i := 0) dX12_stepOn_1 rfl rfl rfl ?_
    refine aw_getI (n := 5) (j := 19) hG.1 fl_RX12_170 (sF_88 hS) rfl dX12_stepOn_2 rfl ?_
    refine aw_cVi (M := M_X12_stepOn) (n := 8) (As := [.int (gI D 88 19)]) (rest := []) hG.1 lk_RX12_173 rfl rfl (sF_88 hS) (c_X12_byteAt hG hS (h := Ok.bi h)) (by decide) (Nat.le_of_ble_eq_true rfl) (by decide) (by decide) dX12_stepOn_5 rfl (fun y_36 D_37 h => ?_)
    refine aw_bipush (n := 10) (v := 32) dX12_stepOn_8 rfl (by decide) ?_
    refine aw_icmp_eq (n := 13) (tgt := 26) dX12_stepOn_10 rfl (by decide) (fun c => ?_) (fun c => ?_)
    · replace h := Ok.ift h c
      refine aw_aload_n (n := 27) (i := 0) dX12_stepOn_26 rfl rfl rfl ?_
      refine aw_dup (n := 28) dX12_stepOn_27 rfl rfl ?_
      refine aw_getI (n := 31) (j := 19) hG.1 fl_RX12_170 (sF_88 hS) rfl dX12_stepOn_28 rfl ?_
      refine aw_iconst (n := 32) (v := 1) dX12_stepOn_31 rfl (by decide) ?_
      refine aw_iadd (n := 33) dX12_stepOn_32 rfl ?_
      obtain ⟨D_38, e_D_38, h⟩ := Ok.let_ h
      refine aw_putI (n := 36) (j := 19) hG.1 fl_RX12_170 (sF_88 hS) rfl e_D_38 dX12_stepOn_33 rfl ?_
      refine aw_goto (tgt := 0) dX12_stepOn_36 (by decide) ?_
      exact aw_le' (hL0 D_38 (Ok.dn h :)) ⟨rfl, trivial⟩
    · replace h := Ok.iff h c
      refine aw_aload_n (n := 14) (i := 0) dX12_stepOn_13 rfl rfl rfl ?_
      refine aw_aload_n (n := 15) (i := 0) dX12_stepOn_14 rfl rfl rfl ?_
      refine aw_getI (n := 18) (j := 19) hG.1 fl_RX12_170 (sF_88 hS) rfl dX12_stepOn_15 rfl ?_
      refine aw_cVi (M := M_X12_stepOn) (n := 21) (As := [.int (gI D_37 88 19)]) (rest := []) hG.1 lk_RX12_173 rfl rfl (sF_88 hS) (c_X12_byteAt hG hS (h := Ok.bi h)) (by decide) (Nat.le_of_ble_eq_true rfl) (by decide) (by decide) dX12_stepOn_18 rfl (fun y_39 D_40 h => ?_)
      refine aw_bipush (n := 23) (v := 10) dX12_stepOn_21 rfl (by decide) ?_
      refine aw_icmp_ne (n := 26) (tgt := 39) dX12_stepOn_23 rfl (by decide) (fun c => ?_) (fun c => ?_)
      · replace h := Ok.ift h c
        exact aw_le' (hJ_39 D_40 (hR0 D_40 (Ok.dn h :))) ⟨rfl, trivial⟩
      · replace h := Ok.iffn h c
        refine aw_aload_n (n := 27) (i := 0) dX12_stepOn_26 rfl rfl rfl ?_
        refine aw_dup (n := 28) dX12_stepOn_27 rfl rfl ?_
        refine aw_getI (n := 31) (j := 19) hG.1 fl_RX12_170 (sF_88 hS) rfl dX12_stepOn_28 rfl ?_
        refine aw_iconst (n := 32) (v := 1) dX12_stepOn_31 rfl (by decide) ?_
        refine aw_iadd (n := 33) dX12_stepOn_32 rfl ?_
        obtain ⟨D_41, e_D_41, h⟩ := Ok.let_ h
        refine aw_putI (n := 36) (j := 19) hG.1 fl_RX12_170 (sF_88 hS) rfl e_D_41 dX12_stepOn_33 rfl ?_
        refine aw_goto (tgt := 0) dX12_stepOn_36 (by decide) ?_
        exact aw_le' (hL0 D_41 (Ok.dn h :)) ⟨rfl, trivial⟩
  refine aw_aload_n (n := 1) (i := 0) dX12_stepOn_0 rfl rfl rfl ?_
  refine aw_aload_n (n := 2) (i := 0) dX12_stepOn_1 rfl rfl rfl ?_
  refine aw_getI (n := 5) (j := 19) hG.1 fl_RX12_170 (sF_88 hS) rfl dX12_stepOn_2 rfl ?_
  refine aw_cVi (M := M_X12_stepOn) (n := 8) (As := [.int (gI D 88 19)]) (rest := []) hG.1 lk_RX12_173 rfl rfl (sF_88 hS) (c_X12_byteAt hG hS (h := Ok.bi h)) (by decide) (Nat.le_of_ble_eq_true rfl) (by decide) (by decide) dX12_stepOn_5 rfl (fun y_1 D_2 h => ?_)
  refine aw_bipush (n := 10) (v := 32) dX12_stepOn_8 rfl (by decide) ?_
  refine aw_icmp_eq (n := 13) (tgt := 26) dX12_stepOn_10 rfl (by decide) (fun c => ?_) (fun c => ?_)
  · replace h := Ok.ift h c
    refine aw_aload_n (n := 27) (i := 0) dX12_stepOn_26 rfl rfl rfl ?_
    refine aw_dup (n := 28) dX12_stepOn_27 rfl rfl ?_
    refine aw_getI (n := 31) (j := 19) hG.1 fl_RX12_170 (sF_88 hS) rfl dX12_stepOn_28 rfl ?_
    refine aw_iconst (n := 32) (v := 1) dX12_stepOn_31 rfl (by decide) ?_
    refine aw_iadd (n := 33) dX12_stepOn_32 rfl ?_
    obtain ⟨D_3, e_D_3, h⟩ := Ok.let_ h
    refine aw_putI (n := 36) (j := 19) hG.1 fl_RX12_170 (sF_88 hS) rfl e_D_3 dX12_stepOn_33 rfl ?_
    refine aw_goto (tgt := 0) dX12_stepOn_36 (by decide) ?_
    exact aw_le' (hJ_0 D_3 h) ⟨rfl, trivial⟩
  · replace h := Ok.iff h c
    refine aw_aload_n (n := 14) (i := 0) dX12_stepOn_13 rfl rfl rfl ?_
    refine aw_aload_n (n := 15) (i := 0) dX12_stepOn_14 rfl rfl rfl ?_
    refine aw_getI (n := 18) (j := 19) hG.1 fl_RX12_170 (sF_88 hS) rfl dX12_stepOn_15 rfl ?_
    refine aw_cVi (M := M_X12_stepOn) (n := 21) (As := [.int (gI D_2 88 19)]) (rest := []) hG.1 lk_RX12_173 rfl rfl (sF_88 hS) (c_X12_byteAt hG hS (h := Ok.bi h)) (by decide) (Nat.le_of_ble_eq_true rfl) (by decide) (by decide) dX12_stepOn_18 rfl (fun y_42 D_43 h => ?_)
    refine aw_bipush (n := 23) (v := 10) dX12_stepOn_21 rfl (by decide) ?_
    refine aw_icmp_ne (n := 26) (tgt := 39) dX12_stepOn_23 rfl (by decide) (fun c => ?_) (fun c => ?_)
    · replace h := Ok.ift h c
      exact aw_le' (hJ_39 D_43 h) ⟨rfl, trivial⟩
    · replace h := Ok.iffn h c
      refine aw_aload_n (n := 27) (i := 0) dX12_stepOn_26 rfl rfl rfl ?_
      refine aw_dup (n := 28) dX12_stepOn_27 rfl rfl ?_
      refine aw_getI (n := 31) (j := 19) hG.1 fl_RX12_170 (sF_88 hS) rfl dX12_stepOn_28 rfl ?_
      refine aw_iconst (n := 32) (v := 1) dX12_stepOn_31 rfl (by decide) ?_
      refine aw_iadd (n := 33) dX12_stepOn_32 rfl ?_
      obtain ⟨D_44, e_D_44, h⟩ := Ok.let_ h
      refine aw_putI (n := 36) (j := 19) hG.1 fl_RX12_170 (sF_88 hS) rfl e_D_44 dX12_stepOn_33 rfl ?_
      refine aw_goto (tgt := 0) dX12_stepOn_36 (by decide) ?_
      exact aw_le' (hJ_0 D_44 h) ⟨rfl, trivial⟩
theorem dX12_wrong_0 : decode cX12_wrong 0 = .ok (.aload_n 0, 1) := by decide +kernel
theorem dX12_wrong_1 : decode cX12_wrong 1 = .ok (.getfield 203, 3) := by decide +kernel
theorem dX12_wrong_4 : decode cX12_wrong 4 = .ok (.ifCond .eq 4, 3) := by decide +kernel
theorem dX12_wrong_7 : decode cX12_wrong 7 = .ok (.return_, 1) := by decide +kernel
theorem dX12_wrong_8 : decode cX12_wrong 8 = .ok (.aload_n 0, 1) := by decide +kernel
theorem dX12_wrong_9 : decode cX12_wrong 9 = .ok (.iload_n 1, 1) := by decide +kernel
theorem dX12_wrong_10 : decode cX12_wrong 10 = .ok (.putfield 203, 3) := by decide +kernel
theorem dX12_wrong_13 : decode cX12_wrong 13 = .ok (.aload_n 0, 1) := by decide +kernel
theorem dX12_wrong_14 : decode cX12_wrong 14 = .ok (.aload_n 0, 1) := by decide +kernel
theorem dX12_wrong_15 : decode cX12_wrong 15 = .ok (.getfield 177, 3) := by decide +kernel
theorem dX12_wrong_18 : decode cX12_wrong 18 = .ok (.putfield 206, 3) := by decide +kernel
theorem dX12_wrong_21 : decode cX12_wrong 21 = .ok (.return_, 1) := by decide +kernel
def f_X12_wrong (v1 : Int32) (D : aD) : Option (aD) :=
  if gI D 88 25 = 0 then (aLet (pI D 88 25 v1) (fun D_1 => aLet (pI D_1 88 26 (gI D_1 88 23)) (fun D_2 => some D_2))) else (some D)
set_option maxRecDepth 100000 in
set_option maxHeartbeats 800000 in
theorem c_X12_wrong {G : aG} (hG : gOK G) {shp : List aSh} (hS : aShp shp) {fr : Option Nat} {v1 : Int32} {D : aD} {K : aD → Prop} (h : Ok (f_X12_wrong v1 D) K) : AC G (aRm 1 0 0) M_X12_wrong [.ref 88, .int v1] fr shp D (aQv shp K) := by
  unfold f_X12_wrong at h
  refine AC.of (al := [some (.ref 88), some (.int v1)]) (r := 0) (by decide) (Nat.le_of_ble_eq_true rfl) rfl ?_
  refine aw_aload_n (n := 1) (i := 0) dX12_wrong_0 rfl rfl rfl ?_
  refine aw_getI (n := 4) (j := 25) hG.1 fl_RX12_203 (sF_88 hS) rfl dX12_wrong_1 rfl ?_
  refine aw_if_eq (n := 7) (tgt := 8) dX12_wrong_4 rfl (by decide) (fun c => ?_) (fun c => ?_)
  · replace h := Ok.ift h c
    refine aw_aload_n (n := 9) (i := 0) dX12_wrong_8 rfl rfl rfl ?_
    refine aw_iload_n (n := 10) (i := 1) dX12_wrong_9 rfl rfl rfl ?_
    obtain ⟨D_1, e_D_1, h⟩ := Ok.let_ h
    refine aw_putI (n := 13) (j := 25) hG.1 fl_RX12_203 (sF_88 hS) rfl e_D_1 dX12_wrong_10 rfl ?_
    refine aw_aload_n (n := 14) (i := 0) dX12_wrong_13 rfl rfl rfl ?_
    refine aw_aload_n (n := 15) (i := 0) dX12_wrong_14 rfl rfl rfl ?_
    refine aw_getI (n := 18) (j := 23) hG.1 fl_RX12_177 (sF_88 hS) rfl dX12_wrong_15 rfl ?_
    obtain ⟨D_2, e_D_2, h⟩ := Ok.let_ h
    refine aw_putI (n := 21) (j := 26) hG.1 fl_RX12_206 (sF_88 hS) rfl e_D_2 dX12_wrong_18 rfl ?_
    exact aw_vret rfl (by decide) (by decide) dX12_wrong_21 ⟨rfl, rfl, (Ok.dn h :)⟩
  · replace h := Ok.iff h c
    exact aw_vret rfl (by decide) (by decide) dX12_wrong_7 ⟨rfl, rfl, (Ok.dn h :)⟩
theorem dX12_isMarked_0 : decode cX12_isMarked 0 = .ok (.aload_n 0, 1) := by decide +kernel
theorem dX12_isMarked_1 : decode cX12_isMarked 1 = .ok (.getfield 203, 3) := by decide +kernel
theorem dX12_isMarked_4 : decode cX12_isMarked 4 = .ok (.ifCond .ne 28, 3) := by decide +kernel
theorem dX12_isMarked_7 : decode cX12_isMarked 7 = .ok (.aload_n 0, 1) := by decide +kernel
theorem dX12_isMarked_8 : decode cX12_isMarked 8 = .ok (.getfield 180, 3) := by decide +kernel
theorem dX12_isMarked_11 : decode cX12_isMarked 11 = .ok (.iconst 3, 1) := by decide +kernel
theorem dX12_isMarked_12 : decode cX12_isMarked 12 = .ok (.if_icmp .ne 20, 3) := by decide +kernel
theorem dX12_isMarked_15 : decode cX12_isMarked 15 = .ok (.aload_n 0, 1) := by decide +kernel
theorem dX12_isMarked_16 : decode cX12_isMarked 16 = .ok (.getfield 69, 3) := by decide +kernel
theorem dX12_isMarked_19 : decode cX12_isMarked 19 = .ok (.aload_n 0, 1) := by decide +kernel
theorem dX12_isMarked_20 : decode cX12_isMarked 20 = .ok (.getfield 177, 3) := by decide +kernel
theorem dX12_isMarked_23 : decode cX12_isMarked 23 = .ok (.iaload, 1) := by decide +kernel
theorem dX12_isMarked_24 : decode cX12_isMarked 24 = .ok (.iload_n 1, 1) := by decide +kernel
theorem dX12_isMarked_25 : decode cX12_isMarked 25 = .ok (.if_icmp .ne 7, 3) := by decide +kernel
theorem dX12_isMarked_28 : decode cX12_isMarked 28 = .ok (.iconst 1, 1) := by decide +kernel
theorem dX12_isMarked_29 : decode cX12_isMarked 29 = .ok (.goto 4, 3) := by decide +kernel
theorem dX12_isMarked_32 : decode cX12_isMarked 32 = .ok (.iconst 0, 1) := by decide +kernel
theorem dX12_isMarked_33 : decode cX12_isMarked 33 = .ok (.ireturn, 1) := by decide +kernel
def f_X12_isMarked (v1 : Int32) (D : aD) : Option (Int32 × aD) :=
  if gI D 88 25 ≠ 0 then (some (0, D)) else (if gI D 88 21 ≠ 3 then (some (0, D)) else (aGd (aIn (gI D 88 23) 700) (if gI D 105 (gI D 88 23).toNatClampNeg ≠ v1 then (some (0, D)) else (some (1, D)))))
set_option maxRecDepth 100000 in
set_option maxHeartbeats 800000 in
theorem c_X12_isMarked {G : aG} (hG : gOK G) {shp : List aSh} (hS : aShp shp) {fr : Option Nat} {v1 : Int32} {D : aD} {K : Int32 → aD → Prop} (h : Ok2 (f_X12_isMarked v1 D) K) : AC G (aRm 1 0 0) M_X12_isMarked [.ref 88, .int v1] fr shp D (aQi shp K) := by
  replace h := Ok2.ok h
  unfold f_X12_isMarked at h
  refine AC.of (al := [some (.ref 88), some (.int v1)]) (r := 0) (by decide) (Nat.le_of_ble_eq_true rfl) rfl ?_
  refine aw_aload_n (n := 1) (i := 0) dX12_isMarked_0 rfl rfl rfl ?_
  refine aw_getI (n := 4) (j := 25) hG.1 fl_RX12_203 (sF_88 hS) rfl dX12_isMarked_1 rfl ?_
  refine aw_if_ne (n := 7) (tgt := 32) dX12_isMarked_4 rfl (by decide) (fun c => ?_) (fun c => ?_)
  · replace h := Ok.ift h c
    refine aw_iconst (n := 33) (v := 0) dX12_isMarked_32 rfl (by decide) ?_
    exact aw_zret rfl (by decide) (by decide) (by decide) dX12_isMarked_33 ⟨_, rfl, rfl, (Ok.dn h :)⟩
  · replace h := Ok.iffn h c
    refine aw_aload_n (n := 8) (i := 0) dX12_isMarked_7 rfl rfl rfl ?_
    refine aw_getI (n := 11) (j := 21) hG.1 fl_RX12_180 (sF_88 hS) rfl dX12_isMarked_8 rfl ?_
    refine aw_iconst (n := 12) (v := 3) dX12_isMarked_11 rfl (by decide) ?_
    refine aw_icmp_ne (n := 15) (tgt := 32) dX12_isMarked_12 rfl (by decide) (fun c => ?_) (fun c => ?_)
    · replace h := Ok.ift h c
      refine aw_iconst (n := 33) (v := 0) dX12_isMarked_32 rfl (by decide) ?_
      exact aw_zret rfl (by decide) (by decide) (by decide) dX12_isMarked_33 ⟨_, rfl, rfl, (Ok.dn h :)⟩
    · replace h := Ok.iffn h c
      refine aw_aload_n (n := 16) (i := 0) dX12_isMarked_15 rfl rfl rfl ?_
      refine aw_getR (n := 19) (j := 17) (r := 105) hG.1 fl_RX12_69 (sF_88 hS) rfl dX12_isMarked_16 rfl ?_
      refine aw_aload_n (n := 20) (i := 0) dX12_isMarked_19 rfl rfl rfl ?_
      refine aw_getI (n := 23) (j := 23) hG.1 fl_RX12_177 (sF_88 hS) rfl dX12_isMarked_20 rfl ?_
      obtain ⟨g_1, h⟩ := Ok.gd h
      refine aw_iaload (n := 24) hG.1 (sF_105 hS) (aIn_in g_1) dX12_isMarked_23 rfl ?_
      refine aw_iload_n (n := 25) (i := 1) dX12_isMarked_24 rfl rfl rfl ?_
      refine aw_icmp_ne (n := 28) (tgt := 32) dX12_isMarked_25 rfl (by decide) (fun c => ?_) (fun c => ?_)
      · replace h := Ok.ift h c
        refine aw_iconst (n := 33) (v := 0) dX12_isMarked_32 rfl (by decide) ?_
        exact aw_zret rfl (by decide) (by decide) (by decide) dX12_isMarked_33 ⟨_, rfl, rfl, (Ok.dn h :)⟩
      · replace h := Ok.iffn h c
        refine aw_iconst (n := 29) (v := 1) dX12_isMarked_28 rfl (by decide) ?_
        refine aw_goto (tgt := 33) dX12_isMarked_29 (by decide) ?_
        exact aw_zret rfl (by decide) (by decide) (by decide) dX12_isMarked_33 ⟨_, rfl, rfl, (Ok.dn h :)⟩
theorem dX12_numberNow_0 : decode cX12_numberNow 0 = .ok (.aload_n 0, 1) := by decide +kernel
theorem dX12_numberNow_1 : decode cX12_numberNow 1 = .ok (.getfield 203, 3) := by decide +kernel
theorem dX12_numberNow_4 : decode cX12_numberNow 4 = .ok (.ifCond .eq 5, 3) := by decide +kernel
theorem dX12_numberNow_7 : decode cX12_numberNow 7 = .ok (.iconst 0, 1) := by decide +kernel
theorem dX12_numberNow_8 : decode cX12_numberNow 8 = .ok (.ireturn, 1) := by decide +kernel
theorem dX12_numberNow_9 : decode cX12_numberNow 9 = .ok (.aload_n 0, 1) := by decide +kernel
theorem dX12_numberNow_10 : decode cX12_numberNow 10 = .ok (.getfield 180, 3) := by decide +kernel
theorem dX12_numberNow_13 : decode cX12_numberNow 13 = .ok (.iconst 2, 1) := by decide +kernel
theorem dX12_numberNow_14 : decode cX12_numberNow 14 = .ok (.if_icmp .eq 11, 3) := by decide +kernel
theorem dX12_numberNow_17 : decode cX12_numberNow 17 = .ok (.aload_n 0, 1) := by decide +kernel
theorem dX12_numberNow_18 : decode cX12_numberNow 18 = .ok (.iconst 1, 1) := by decide +kernel
theorem dX12_numberNow_19 : decode cX12_numberNow 19 = .ok (.invokevirtual 224, 3) := by decide +kernel
theorem dX12_numberNow_22 : decode cX12_numberNow 22 = .ok (.goto 37, 3) := by decide +kernel
theorem dX12_numberNow_25 : decode cX12_numberNow 25 = .ok (.aload_n 0, 1) := by decide +kernel
theorem dX12_numberNow_26 : decode cX12_numberNow 26 = .ok (.getfield 200, 3) := by decide +kernel
theorem dX12_numberNow_29 : decode cX12_numberNow 29 = .ok (.aload_n 0, 1) := by decide +kernel
theorem dX12_numberNow_30 : decode cX12_numberNow 30 = .ok (.getfield 177, 3) := by decide +kernel
theorem dX12_numberNow_33 : decode cX12_numberNow 33 = .ok (.isub, 1) := by decide +kernel
theorem dX12_numberNow_34 : decode cX12_numberNow 34 = .ok (.iconst 4, 1) := by decide +kernel
theorem dX12_numberNow_35 : decode cX12_numberNow 35 = .ok (.if_icmp .gt 19, 3) := by decide +kernel
theorem dX12_numberNow_38 : decode cX12_numberNow 38 = .ok (.aload_n 0, 1) := by decide +kernel
theorem dX12_numberNow_39 : decode cX12_numberNow 39 = .ok (.getfield 190, 3) := by decide +kernel
theorem dX12_numberNow_42 : decode cX12_numberNow 42 = .ok (.iload_n 1, 1) := by decide +kernel
theorem dX12_numberNow_43 : decode cX12_numberNow 43 = .ok (.if_icmp .lt 11, 3) := by decide +kernel
theorem dX12_numberNow_46 : decode cX12_numberNow 46 = .ok (.aload_n 0, 1) := by decide +kernel
theorem dX12_numberNow_47 : decode cX12_numberNow 47 = .ok (.getfield 190, 3) := by decide +kernel
theorem dX12_numberNow_50 : decode cX12_numberNow 50 = .ok (.iload_n 2, 1) := by decide +kernel
theorem dX12_numberNow_51 : decode cX12_numberNow 51 = .ok (.if_icmp .le 8, 3) := by decide +kernel
theorem dX12_numberNow_54 : decode cX12_numberNow 54 = .ok (.aload_n 0, 1) := by decide +kernel
theorem dX12_numberNow_55 : decode cX12_numberNow 55 = .ok (.iconst 2, 1) := by decide +kernel
theorem dX12_numberNow_56 : decode cX12_numberNow 56 = .ok (.invokevirtual 224, 3) := by decide +kernel
theorem dX12_numberNow_59 : decode cX12_numberNow 59 = .ok (.aload_n 0, 1) := by decide +kernel
theorem dX12_numberNow_60 : decode cX12_numberNow 60 = .ok (.getfield 203, 3) := by decide +kernel
theorem dX12_numberNow_63 : decode cX12_numberNow 63 = .ok (.ifCond .ne 10, 3) := by decide +kernel
theorem dX12_numberNow_66 : decode cX12_numberNow 66 = .ok (.aload_n 0, 1) := by decide +kernel
theorem dX12_numberNow_67 : decode cX12_numberNow 67 = .ok (.getfield 190, 3) := by decide +kernel
theorem dX12_numberNow_70 : decode cX12_numberNow 70 = .ok (.goto 4, 3) := by decide +kernel
theorem dX12_numberNow_73 : decode cX12_numberNow 73 = .ok (.iconst 0, 1) := by decide +kernel
theorem dX12_numberNow_74 : decode cX12_numberNow 74 = .ok (.ireturn, 1) := by decide +kernel
def J_X12_numberNow_59 (D : aD) : Option (Int32 × aD) :=
  if gI D 88 25 ≠ 0 then (some (0, D)) else (some (gI D 88 22, D))
def J_X12_numberNow_54 (D : aD) : Option (Int32 × aD) :=
  (f_X12_wrong 2 D).bind (fun D_1 => J_X12_numberNow_59 D_1)
def f_X12_numberNow (v1 : Int32) (v2 : Int32) (D : aD) : Option (Int32 × aD) :=
  if gI D 88 25 = 0 then (if gI D 88 21 = 2 then (if 4 < (gI D 88 24) - (gI D 88 23) then (J_X12_numberNow_54 D) else (if gI D 88 22 < v1 then (J_X12_numberNow_54 D) else (if gI D 88 22 ≤ v2 then (J_X12_numberNow_59 D) else (J_X12_numberNow_54 D)))) else ((f_X12_wrong 1 D).bind (fun D_2 => J_X12_numberNow_59 D_2))) else (some (0, D))
set_option maxRecDepth 100000 in
set_option maxHeartbeats 800000 in
theorem c_X12_numberNow {G : aG} (hG : gOK G) {shp : List aSh} (hS : aShp shp) {fr : Option Nat} {v1 : Int32} {v2 : Int32} {D : aD} {K : Int32 → aD → Prop} (h : Ok2 (f_X12_numberNow v1 v2 D) K) : AC G (aRm 2 0 0) M_X12_numberNow [.ref 88, .int v1, .int v2] fr shp D (aQi shp K) := by
  replace h := Ok2.ok h
  unfold f_X12_numberNow at h
  refine AC.of (al := [some (.ref 88), some (.int v1), some (.int v2)]) (r := 0) (by decide) (Nat.le_of_ble_eq_true rfl) rfl ?_
  have hJ_59 : ∀ (D : aD), Ok (J_X12_numberNow_59 D) (fun r => K r.1 r.2) → AW G (aRm 2 0 0) M_X12_numberNow fr 0 0 59 [some (.ref 88), none, none] [] shp D (aQi shp K) := by
    intro D h
    unfold J_X12_numberNow_59 at h
    refine aw_aload_n (n := 60) (i := 0) dX12_numberNow_59 rfl rfl rfl ?_
    refine aw_getI (n := 63) (j := 25) hG.1 fl_RX12_203 (sF_88 hS) rfl dX12_numberNow_60 rfl ?_
    refine aw_if_ne (n := 66) (tgt := 73) dX12_numberNow_63 rfl (by decide) (fun c => ?_) (fun c => ?_)
    · replace h := Ok.ift h c
      refine aw_iconst (n := 74) (v := 0) dX12_numberNow_73 rfl (by decide) ?_
      exact aw_iret rfl (by decide) (by decide) dX12_numberNow_74 ⟨_, rfl, rfl, (Ok.dn h :)⟩
    · replace h := Ok.iffn h c
      refine aw_aload_n (n := 67) (i := 0) dX12_numberNow_66 rfl rfl rfl ?_
      refine aw_getI (n := 70) (j := 22) hG.1 fl_RX12_190 (sF_88 hS) rfl dX12_numberNow_67 rfl ?_
      refine aw_goto (tgt := 74) dX12_numberNow_70 (by decide) ?_
      exact aw_iret rfl (by decide) (by decide) dX12_numberNow_74 ⟨_, rfl, rfl, (Ok.dn h :)⟩
  have hJ_54 : ∀ (D : aD), Ok (J_X12_numberNow_54 D) (fun r => K r.1 r.2) → AW G (aRm 2 0 0) M_X12_numberNow fr 0 0 54 [some (.ref 88), none, none] [] shp D (aQi shp K) := by
    intro D h
    unfold J_X12_numberNow_54 at h
    refine aw_aload_n (n := 55) (i := 0) dX12_numberNow_54 rfl rfl rfl ?_
    refine aw_iconst (n := 56) (v := 2) dX12_numberNow_55 rfl (by decide) ?_
    refine aw_cVv (M := M_X12_numberNow) (n := 59) (As := [.int 2]) (rest := []) hG.1 lk_RX12_224 rfl rfl (sF_88 hS) (c_X12_wrong hG hS (h := Ok.bind h)) (by decide) (Nat.le_of_ble_eq_true rfl) (by decide) (by decide) dX12_numberNow_56 rfl (fun D_1 h => ?_)
    exact aw_le' (hJ_59 D_1 h) ⟨rfl, trivial⟩
  refine aw_aload_n (n := 1) (i := 0) dX12_numberNow_0 rfl rfl rfl ?_
  refine aw_getI (n := 4) (j := 25) hG.1 fl_RX12_203 (sF_88 hS) rfl dX12_numberNow_1 rfl ?_
  refine aw_if_eq (n := 7) (tgt := 9) dX12_numberNow_4 rfl (by decide) (fun c => ?_) (fun c => ?_)
  · replace h := Ok.ift h c
    refine aw_aload_n (n := 10) (i := 0) dX12_numberNow_9 rfl rfl rfl ?_
    refine aw_getI (n := 13) (j := 21) hG.1 fl_RX12_180 (sF_88 hS) rfl dX12_numberNow_10 rfl ?_
    refine aw_iconst (n := 14) (v := 2) dX12_numberNow_13 rfl (by decide) ?_
    refine aw_icmp_eq (n := 17) (tgt := 25) dX12_numberNow_14 rfl (by decide) (fun c => ?_) (fun c => ?_)
    · replace h := Ok.ift h c
      refine aw_aload_n (n := 26) (i := 0) dX12_numberNow_25 rfl rfl rfl ?_
      refine aw_getI (n := 29) (j := 24) hG.1 fl_RX12_200 (sF_88 hS) rfl dX12_numberNow_26 rfl ?_
      refine aw_aload_n (n := 30) (i := 0) dX12_numberNow_29 rfl rfl rfl ?_
      refine aw_getI (n := 33) (j := 23) hG.1 fl_RX12_177 (sF_88 hS) rfl dX12_numberNow_30 rfl ?_
      refine aw_isub (n := 34) dX12_numberNow_33 rfl ?_
      refine aw_iconst (n := 35) (v := 4) dX12_numberNow_34 rfl (by decide) ?_
      refine aw_icmp_gt (n := 38) (tgt := 54) dX12_numberNow_35 rfl (by decide) (fun c => ?_) (fun c => ?_)
      · replace h := Ok.ift h c
        exact aw_le' (hJ_54 D h) ⟨rfl, trivial⟩
      · replace h := Ok.iff h c
        refine aw_aload_n (n := 39) (i := 0) dX12_numberNow_38 rfl rfl rfl ?_
        refine aw_getI (n := 42) (j := 22) hG.1 fl_RX12_190 (sF_88 hS) rfl dX12_numberNow_39 rfl ?_
        refine aw_iload_n (n := 43) (i := 1) dX12_numberNow_42 rfl rfl rfl ?_
        refine aw_icmp_lt (n := 46) (tgt := 54) dX12_numberNow_43 rfl (by decide) (fun c => ?_) (fun c => ?_)
        · replace h := Ok.ift h c
          exact aw_le' (hJ_54 D h) ⟨rfl, trivial⟩
        · replace h := Ok.iff h c
          refine aw_aload_n (n := 47) (i := 0) dX12_numberNow_46 rfl rfl rfl ?_
          refine aw_getI (n := 50) (j := 22) hG.1 fl_RX12_190 (sF_88 hS) rfl dX12_numberNow_47 rfl ?_
          refine aw_iload_n (n := 51) (i := 2) dX12_numberNow_50 rfl rfl rfl ?_
          refine aw_icmp_le (n := 54) (tgt := 59) dX12_numberNow_51 rfl (by decide) (fun c => ?_) (fun c => ?_)
          · replace h := Ok.ift h c
            exact aw_le' (hJ_59 D h) ⟨rfl, trivial⟩
          · replace h := Ok.iff h c
            exact aw_le' (hJ_54 D h) ⟨rfl, trivial⟩
    · replace h := Ok.iff h c
      refine aw_aload_n (n := 18) (i := 0) dX12_numberNow_17 rfl rfl rfl ?_
      refine aw_iconst (n := 19) (v := 1) dX12_numberNow_18 rfl (by decide) ?_
      refine aw_cVv (M := M_X12_numberNow) (n := 22) (As := [.int 1]) (rest := []) hG.1 lk_RX12_224 rfl rfl (sF_88 hS) (c_X12_wrong hG hS (h := Ok.bind h)) (by decide) (Nat.le_of_ble_eq_true rfl) (by decide) (by decide) dX12_numberNow_19 rfl (fun D_2 h => ?_)
      refine aw_goto (tgt := 59) dX12_numberNow_22 (by decide) ?_
      exact aw_le' (hJ_59 D_2 h) ⟨rfl, trivial⟩
  · replace h := Ok.iff h c
    refine aw_iconst (n := 8) (v := 0) dX12_numberNow_7 rfl (by decide) ?_
    exact aw_iret rfl (by decide) (by decide) dX12_numberNow_8 ⟨_, rfl, rfl, (Ok.dn h :)⟩
theorem dX12_readNumber_0 : decode cX12_readNumber 0 = .ok (.aload_n 0, 1) := by decide +kernel
theorem dX12_readNumber_1 : decode cX12_readNumber 1 = .ok (.iload_n 1, 1) := by decide +kernel
theorem dX12_readNumber_2 : decode cX12_readNumber 2 = .ok (.iload_n 2, 1) := by decide +kernel
theorem dX12_readNumber_3 : decode cX12_readNumber 3 = .ok (.invokevirtual 228, 3) := by decide +kernel
theorem dX12_readNumber_6 : decode cX12_readNumber 6 = .ok (.istore_n 3, 1) := by decide +kernel
theorem dX12_readNumber_7 : decode cX12_readNumber 7 = .ok (.aload_n 0, 1) := by decide +kernel
theorem dX12_readNumber_8 : decode cX12_readNumber 8 = .ok (.getfield 203, 3) := by decide +kernel
theorem dX12_readNumber_11 : decode cX12_readNumber 11 = .ok (.ifCond .ne 7, 3) := by decide +kernel
theorem dX12_readNumber_14 : decode cX12_readNumber 14 = .ok (.aload_n 0, 1) := by decide +kernel
theorem dX12_readNumber_15 : decode cX12_readNumber 15 = .ok (.invokevirtual 221, 3) := by decide +kernel
theorem dX12_readNumber_18 : decode cX12_readNumber 18 = .ok (.iload_n 3, 1) := by decide +kernel
theorem dX12_readNumber_19 : decode cX12_readNumber 19 = .ok (.ireturn, 1) := by decide +kernel
def f_X12_readNumber (v1 : Int32) (v2 : Int32) (D : aD) : Option (Int32 × aD) :=
  aBi (f_X12_numberNow v1 v2 D) (fun y_1 D_2 => if gI D_2 88 25 ≠ 0 then (some (y_1, D_2)) else ((f_X12_stepOn D_2).bind (fun D_3 => some (y_1, D_3))))
set_option maxRecDepth 100000 in
set_option maxHeartbeats 800000 in
theorem c_X12_readNumber {G : aG} (hG : gOK G) {shp : List aSh} (hS : aShp shp) {fr : Option Nat} {v1 : Int32} {v2 : Int32} {D : aD} {K : Int32 → aD → Prop} (h : Ok2 (f_X12_readNumber v1 v2 D) K) : AC G (aRm 3 0 0) M_X12_readNumber [.ref 88, .int v1, .int v2] fr shp D (aQi shp K) := by
  replace h := Ok2.ok h
  unfold f_X12_readNumber at h
  refine AC.of (al := [some (.ref 88), some (.int v1), some (.int v2), none]) (r := 1) (by decide) (Nat.le_of_ble_eq_true rfl) rfl ?_
  refine aw_aload_n (n := 1) (i := 0) dX12_readNumber_0 rfl rfl rfl ?_
  refine aw_iload_n (n := 2) (i := 1) dX12_readNumber_1 rfl rfl rfl ?_
  refine aw_iload_n (n := 3) (i := 2) dX12_readNumber_2 rfl rfl rfl ?_
  refine aw_cVi (M := M_X12_readNumber) (n := 6) (As := [.int v1, .int v2]) (rest := []) hG.1 lk_RX12_228 rfl rfl (sF_88 hS) (c_X12_numberNow hG hS (h := Ok.bi h)) (by decide) (Nat.le_of_ble_eq_true rfl) (by decide) (by decide) dX12_readNumber_3 rfl (fun y_1 D_2 h => ?_)
  refine aw_istore_n (n := 7) (i := 3) (al' := [some (.ref 88), some (.int v1), some (.int v2), some (.int y_1)]) dX12_readNumber_6 rfl rfl rfl (by decide) rfl ?_
  refine aw_aload_n (n := 8) (i := 0) dX12_readNumber_7 rfl rfl rfl ?_
  refine aw_getI (n := 11) (j := 25) hG.1 fl_RX12_203 (sF_88 hS) rfl dX12_readNumber_8 rfl ?_
  refine aw_if_ne (n := 14) (tgt := 18) dX12_readNumber_11 rfl (by decide) (fun c => ?_) (fun c => ?_)
  · replace h := Ok.ift h c
    refine aw_iload_n (n := 19) (i := 3) dX12_readNumber_18 rfl rfl rfl ?_
    exact aw_iret rfl (by decide) (by decide) dX12_readNumber_19 ⟨_, rfl, rfl, (Ok.dn h :)⟩
  · replace h := Ok.iffn h c
    refine aw_aload_n (n := 15) (i := 0) dX12_readNumber_14 rfl rfl rfl ?_
    refine aw_cVv (M := M_X12_readNumber) (n := 18) (As := []) (rest := []) hG.1 lk_RX12_221 rfl rfl (sF_88 hS) (c_X12_stepOn hG hS (h := Ok.bind h)) (by decide) (Nat.le_of_ble_eq_true rfl) (by decide) (by decide) dX12_readNumber_15 rfl (fun D_3 h => ?_)
    refine aw_iload_n (n := 19) (i := 3) dX12_readNumber_18 rfl rfl rfl ?_
    exact aw_iret rfl (by decide) (by decide) dX12_readNumber_19 ⟨_, rfl, rfl, (Ok.dn h :)⟩
theorem dX12_readSigned_0 : decode cX12_readSigned 0 = .ok (.aload_n 0, 1) := by decide +kernel
theorem dX12_readSigned_1 : decode cX12_readSigned 1 = .ok (.bipush 45, 2) := by decide +kernel
theorem dX12_readSigned_3 : decode cX12_readSigned 3 = .ok (.invokevirtual 231, 3) := by decide +kernel
theorem dX12_readSigned_6 : decode cX12_readSigned 6 = .ok (.istore_n 2, 1) := by decide +kernel
theorem dX12_readSigned_7 : decode cX12_readSigned 7 = .ok (.iload_n 2, 1) := by decide +kernel
theorem dX12_readSigned_8 : decode cX12_readSigned 8 = .ok (.ifCond .eq 7, 3) := by decide +kernel
theorem dX12_readSigned_11 : decode cX12_readSigned 11 = .ok (.aload_n 0, 1) := by decide +kernel
theorem dX12_readSigned_12 : decode cX12_readSigned 12 = .ok (.invokevirtual 221, 3) := by decide +kernel
theorem dX12_readSigned_15 : decode cX12_readSigned 15 = .ok (.aload_n 0, 1) := by decide +kernel
theorem dX12_readSigned_16 : decode cX12_readSigned 16 = .ok (.iconst 0, 1) := by decide +kernel
theorem dX12_readSigned_17 : decode cX12_readSigned 17 = .ok (.iload_n 1, 1) := by decide +kernel
theorem dX12_readSigned_18 : decode cX12_readSigned 18 = .ok (.invokevirtual 234, 3) := by decide +kernel
theorem dX12_readSigned_21 : decode cX12_readSigned 21 = .ok (.istore_n 3, 1) := by decide +kernel
theorem dX12_readSigned_22 : decode cX12_readSigned 22 = .ok (.iload_n 2, 1) := by decide +kernel
theorem dX12_readSigned_23 : decode cX12_readSigned 23 = .ok (.ifCond .eq 8, 3) := by decide +kernel
theorem dX12_readSigned_26 : decode cX12_readSigned 26 = .ok (.iload_n 3, 1) := by decide +kernel
theorem dX12_readSigned_27 : decode cX12_readSigned 27 = .ok (.ineg, 1) := by decide +kernel
theorem dX12_readSigned_28 : decode cX12_readSigned 28 = .ok (.goto 4, 3) := by decide +kernel
theorem dX12_readSigned_31 : decode cX12_readSigned 31 = .ok (.iload_n 3, 1) := by decide +kernel
theorem dX12_readSigned_32 : decode cX12_readSigned 32 = .ok (.ireturn, 1) := by decide +kernel
def J_X12_readSigned_15 (v1 : Int32) (v2 : Int32) (D : aD) : Option (Int32 × aD) :=
  aBi (f_X12_readNumber 0 v1 D) (fun y_3 D_4 => if v2 = 0 then (some (y_3, D_4)) else (some (-y_3, D_4)))
def f_X12_readSigned (v1 : Int32) (D : aD) : Option (Int32 × aD) :=
  aBi (f_X12_isMarked 45 D) (fun y_1 D_2 => if y_1 = 0 then (J_X12_readSigned_15 v1 y_1 D_2) else ((f_X12_stepOn D_2).bind (fun D_5 => J_X12_readSigned_15 v1 y_1 D_5)))
set_option maxRecDepth 100000 in
set_option maxHeartbeats 800000 in
theorem c_X12_readSigned {G : aG} (hG : gOK G) {shp : List aSh} (hS : aShp shp) {fr : Option Nat} {v1 : Int32} {D : aD} {K : Int32 → aD → Prop} (h : Ok2 (f_X12_readSigned v1 D) K) : AC G (aRm 4 0 0) M_X12_readSigned [.ref 88, .int v1] fr shp D (aQi shp K) := by
  replace h := Ok2.ok h
  unfold f_X12_readSigned at h
  refine AC.of (al := [some (.ref 88), some (.int v1), none, none]) (r := 2) (by decide) (Nat.le_of_ble_eq_true rfl) rfl ?_
  have hJ_15 : ∀ (v1 : Int32) (v2 : Int32) (D : aD), Ok (J_X12_readSigned_15 v1 v2 D) (fun r => K r.1 r.2) → AW G (aRm 4 0 0) M_X12_readSigned fr 0 0 15 [some (.ref 88), some (.int v1), some (.int v2), none] [] shp D (aQi shp K) := by
    intro v1 v2 D h
    unfold J_X12_readSigned_15 at h
    refine aw_aload_n (n := 16) (i := 0) dX12_readSigned_15 rfl rfl rfl ?_
    refine aw_iconst (n := 17) (v := 0) dX12_readSigned_16 rfl (by decide) ?_
    refine aw_iload_n (n := 18) (i := 1) dX12_readSigned_17 rfl rfl rfl ?_
    refine aw_cVi (M := M_X12_readSigned) (n := 21) (As := [.int 0, .int v1]) (rest := []) hG.1 lk_RX12_234 rfl rfl (sF_88 hS) (c_X12_readNumber hG hS (h := Ok.bi h)) (by decide) (Nat.le_of_ble_eq_true rfl) (by decide) (by decide) dX12_readSigned_18 rfl (fun y_3 D_4 h => ?_)
    refine aw_istore_n (n := 22) (i := 3) (al' := [some (.ref 88), some (.int v1), some (.int v2), some (.int y_3)]) dX12_readSigned_21 rfl rfl rfl (by decide) rfl ?_
    refine aw_iload_n (n := 23) (i := 2) dX12_readSigned_22 rfl rfl rfl ?_
    refine aw_if_eq (n := 26) (tgt := 31) dX12_readSigned_23 rfl (by decide) (fun c => ?_) (fun c => ?_)
    · replace h := Ok.ift h c
      refine aw_iload_n (n := 32) (i := 3) dX12_readSigned_31 rfl rfl rfl ?_
      exact aw_iret rfl (by decide) (by decide) dX12_readSigned_32 ⟨_, rfl, rfl, (Ok.dn h :)⟩
    · replace h := Ok.iff h c
      refine aw_iload_n (n := 27) (i := 3) dX12_readSigned_26 rfl rfl rfl ?_
      refine aw_ineg (n := 28) dX12_readSigned_27 rfl ?_
      refine aw_goto (tgt := 32) dX12_readSigned_28 (by decide) ?_
      exact aw_iret rfl (by decide) (by decide) dX12_readSigned_32 ⟨_, rfl, rfl, (Ok.dn h :)⟩
  refine aw_aload_n (n := 1) (i := 0) dX12_readSigned_0 rfl rfl rfl ?_
  refine aw_bipush (n := 3) (v := 45) dX12_readSigned_1 rfl (by decide) ?_
  refine aw_cVi (M := M_X12_readSigned) (n := 6) (As := [.int 45]) (rest := []) hG.1 lk_RX12_231 rfl rfl (sF_88 hS) (c_X12_isMarked hG hS (h := Ok.bi h)) (by decide) (Nat.le_of_ble_eq_true rfl) (by decide) (by decide) dX12_readSigned_3 rfl (fun y_1 D_2 h => ?_)
  refine aw_istore_n (n := 7) (i := 2) (al' := [some (.ref 88), some (.int v1), some (.int y_1), none]) dX12_readSigned_6 rfl rfl rfl (by decide) rfl ?_
  refine aw_iload_n (n := 8) (i := 2) dX12_readSigned_7 rfl rfl rfl ?_
  refine aw_if_eq (n := 11) (tgt := 15) dX12_readSigned_8 rfl (by decide) (fun c => ?_) (fun c => ?_)
  · replace h := Ok.ift h c
    exact aw_le' (hJ_15 v1 y_1 D_2 h) ⟨rfl, ⟨rfl, ⟨rfl, trivial⟩⟩⟩
  · replace h := Ok.iff h c
    refine aw_aload_n (n := 12) (i := 0) dX12_readSigned_11 rfl rfl rfl ?_
    refine aw_cVv (M := M_X12_readSigned) (n := 15) (As := []) (rest := []) hG.1 lk_RX12_221 rfl rfl (sF_88 hS) (c_X12_stepOn hG hS (h := Ok.bind h)) (by decide) (Nat.le_of_ble_eq_true rfl) (by decide) (by decide) dX12_readSigned_12 rfl (fun D_5 h => ?_)
    exact aw_le' (hJ_15 v1 y_1 D_5 h) ⟨rfl, ⟨rfl, ⟨rfl, trivial⟩⟩⟩
theorem dX12_oneNow_0 : decode cX12_oneNow 0 = .ok (.aload_n 0, 1) := by decide +kernel
theorem dX12_oneNow_1 : decode cX12_oneNow 1 = .ok (.iconst 0, 1) := by decide +kernel
theorem dX12_oneNow_2 : decode cX12_oneNow 2 = .ok (.sipush 9999, 3) := by decide +kernel
theorem dX12_oneNow_5 : decode cX12_oneNow 5 = .ok (.invokevirtual 228, 3) := by decide +kernel
theorem dX12_oneNow_8 : decode cX12_oneNow 8 = .ok (.istore_n 2, 1) := by decide +kernel
theorem dX12_oneNow_9 : decode cX12_oneNow 9 = .ok (.aload_n 0, 1) := by decide +kernel
theorem dX12_oneNow_10 : decode cX12_oneNow 10 = .ok (.getfield 203, 3) := by decide +kernel
theorem dX12_oneNow_13 : decode cX12_oneNow 13 = .ok (.ifCond .ne 21, 3) := by decide +kernel
theorem dX12_oneNow_16 : decode cX12_oneNow 16 = .ok (.iload_n 2, 1) := by decide +kernel
theorem dX12_oneNow_17 : decode cX12_oneNow 17 = .ok (.aload_n 0, 1) := by decide +kernel
theorem dX12_oneNow_18 : decode cX12_oneNow 18 = .ok (.getfield 27, 3) := by decide +kernel
theorem dX12_oneNow_21 : decode cX12_oneNow 21 = .ok (.bipush 16, 2) := by decide +kernel
theorem dX12_oneNow_23 : decode cX12_oneNow 23 = .ok (.iload_n 1, 1) := by decide +kernel
theorem dX12_oneNow_24 : decode cX12_oneNow 24 = .ok (.iadd, 1) := by decide +kernel
theorem dX12_oneNow_25 : decode cX12_oneNow 25 = .ok (.iaload, 1) := by decide +kernel
theorem dX12_oneNow_26 : decode cX12_oneNow 26 = .ok (.if_icmp .lt 8, 3) := by decide +kernel
theorem dX12_oneNow_29 : decode cX12_oneNow 29 = .ok (.aload_n 0, 1) := by decide +kernel
theorem dX12_oneNow_30 : decode cX12_oneNow 30 = .ok (.iconst 3, 1) := by decide +kernel
theorem dX12_oneNow_31 : decode cX12_oneNow 31 = .ok (.invokevirtual 224, 3) := by decide +kernel
theorem dX12_oneNow_34 : decode cX12_oneNow 34 = .ok (.aload_n 0, 1) := by decide +kernel
theorem dX12_oneNow_35 : decode cX12_oneNow 35 = .ok (.getfield 203, 3) := by decide +kernel
theorem dX12_oneNow_38 : decode cX12_oneNow 38 = .ok (.ifCond .ne 7, 3) := by decide +kernel
theorem dX12_oneNow_41 : decode cX12_oneNow 41 = .ok (.iload_n 2, 1) := by decide +kernel
theorem dX12_oneNow_42 : decode cX12_oneNow 42 = .ok (.goto 4, 3) := by decide +kernel
theorem dX12_oneNow_45 : decode cX12_oneNow 45 = .ok (.iconst 0, 1) := by decide +kernel
theorem dX12_oneNow_46 : decode cX12_oneNow 46 = .ok (.ireturn, 1) := by decide +kernel
def J_X12_oneNow_34 (v2 : Int32) (D : aD) : Option (Int32 × aD) :=
  if gI D 88 25 ≠ 0 then (some (0, D)) else (some (v2, D))
def f_X12_oneNow (v1 : Int32) (D : aD) : Option (Int32 × aD) :=
  aBi (f_X12_numberNow 0 9999 D) (fun y_1 D_2 => if gI D_2 88 25 ≠ 0 then (J_X12_oneNow_34 y_1 D_2) else (aGd (aIn (16 + v1) 32) (if y_1 < gI D_2 91 (16 + v1).toNatClampNeg then (J_X12_oneNow_34 y_1 D_2) else ((f_X12_wrong 3 D_2).bind (fun D_4 => J_X12_oneNow_34 y_1 D_4)))))
set_option maxRecDepth 100000 in
set_option maxHeartbeats 800000 in
theorem c_X12_oneNow {G : aG} (hG : gOK G) {shp : List aSh} (hS : aShp shp) {fr : Option Nat} {v1 : Int32} {D : aD} {K : Int32 → aD → Prop} (h : Ok2 (f_X12_oneNow v1 D) K) : AC G (aRm 3 0 0) M_X12_oneNow [.ref 88, .int v1] fr shp D (aQi shp K) := by
  replace h := Ok2.ok h
  unfold f_X12_oneNow at h
  refine AC.of (al := [some (.ref 88), some (.int v1), none]) (r := 1) (by decide) (Nat.le_of_ble_eq_true rfl) rfl ?_
  have hJ_34 : ∀ (v2 : Int32) (D : aD), Ok (J_X12_oneNow_34 v2 D) (fun r => K r.1 r.2) → AW G (aRm 3 0 0) M_X12_oneNow fr 0 0 34 [some (.ref 88), none, some (.int v2)] [] shp D (aQi shp K) := by
    intro v2 D h
    unfold J_X12_oneNow_34 at h
    refine aw_aload_n (n := 35) (i := 0) dX12_oneNow_34 rfl rfl rfl ?_
    refine aw_getI (n := 38) (j := 25) hG.1 fl_RX12_203 (sF_88 hS) rfl dX12_oneNow_35 rfl ?_
    refine aw_if_ne (n := 41) (tgt := 45) dX12_oneNow_38 rfl (by decide) (fun c => ?_) (fun c => ?_)
    · replace h := Ok.ift h c
      refine aw_iconst (n := 46) (v := 0) dX12_oneNow_45 rfl (by decide) ?_
      exact aw_iret rfl (by decide) (by decide) dX12_oneNow_46 ⟨_, rfl, rfl, (Ok.dn h :)⟩
    · replace h := Ok.iffn h c
      refine aw_iload_n (n := 42) (i := 2) dX12_oneNow_41 rfl rfl rfl ?_
      refine aw_goto (tgt := 46) dX12_oneNow_42 (by decide) ?_
      exact aw_iret rfl (by decide) (by decide) dX12_oneNow_46 ⟨_, rfl, rfl, (Ok.dn h :)⟩
  refine aw_aload_n (n := 1) (i := 0) dX12_oneNow_0 rfl rfl rfl ?_
  refine aw_iconst (n := 2) (v := 0) dX12_oneNow_1 rfl (by decide) ?_
  refine aw_sipush (n := 5) (v := 9999) dX12_oneNow_2 rfl (by decide) ?_
  refine aw_cVi (M := M_X12_oneNow) (n := 8) (As := [.int 0, .int 9999]) (rest := []) hG.1 lk_RX12_228 rfl rfl (sF_88 hS) (c_X12_numberNow hG hS (h := Ok.bi h)) (by decide) (Nat.le_of_ble_eq_true rfl) (by decide) (by decide) dX12_oneNow_5 rfl (fun y_1 D_2 h => ?_)
  refine aw_istore_n (n := 9) (i := 2) (al' := [some (.ref 88), some (.int v1), some (.int y_1)]) dX12_oneNow_8 rfl rfl rfl (by decide) rfl ?_
  refine aw_aload_n (n := 10) (i := 0) dX12_oneNow_9 rfl rfl rfl ?_
  refine aw_getI (n := 13) (j := 25) hG.1 fl_RX12_203 (sF_88 hS) rfl dX12_oneNow_10 rfl ?_
  refine aw_if_ne (n := 16) (tgt := 34) dX12_oneNow_13 rfl (by decide) (fun c => ?_) (fun c => ?_)
  · replace h := Ok.ift h c
    exact aw_le' (hJ_34 y_1 D_2 h) ⟨rfl, ⟨rfl, trivial⟩⟩
  · replace h := Ok.iffn h c
    refine aw_iload_n (n := 17) (i := 2) dX12_oneNow_16 rfl rfl rfl ?_
    refine aw_aload_n (n := 18) (i := 0) dX12_oneNow_17 rfl rfl rfl ?_
    refine aw_getR (n := 21) (j := 3) (r := 91) hG.1 fl_RX12_27 (sF_88 hS) rfl dX12_oneNow_18 rfl ?_
    refine aw_bipush (n := 23) (v := 16) dX12_oneNow_21 rfl (by decide) ?_
    refine aw_iload_n (n := 24) (i := 1) dX12_oneNow_23 rfl rfl rfl ?_
    refine aw_iadd (n := 25) dX12_oneNow_24 rfl ?_
    obtain ⟨g_3, h⟩ := Ok.gd h
    refine aw_iaload (n := 26) hG.1 (sF_91 hS) (aIn_in g_3) dX12_oneNow_25 rfl ?_
    refine aw_icmp_lt (n := 29) (tgt := 34) dX12_oneNow_26 rfl (by decide) (fun c => ?_) (fun c => ?_)
    · replace h := Ok.ift h c
      exact aw_le' (hJ_34 y_1 D_2 h) ⟨rfl, ⟨rfl, trivial⟩⟩
    · replace h := Ok.iff h c
      refine aw_aload_n (n := 30) (i := 0) dX12_oneNow_29 rfl rfl rfl ?_
      refine aw_iconst (n := 31) (v := 3) dX12_oneNow_30 rfl (by decide) ?_
      refine aw_cVv (M := M_X12_oneNow) (n := 34) (As := [.int 3]) (rest := []) hG.1 lk_RX12_224 rfl rfl (sF_88 hS) (c_X12_wrong hG hS (h := Ok.bind h)) (by decide) (Nat.le_of_ble_eq_true rfl) (by decide) (by decide) dX12_oneNow_31 rfl (fun D_4 h => ?_)
      exact aw_le' (hJ_34 y_1 D_4 h) ⟨rfl, ⟨rfl, trivial⟩⟩
theorem dX12_readOne_0 : decode cX12_readOne 0 = .ok (.aload_n 0, 1) := by decide +kernel
theorem dX12_readOne_1 : decode cX12_readOne 1 = .ok (.iload_n 1, 1) := by decide +kernel
theorem dX12_readOne_2 : decode cX12_readOne 2 = .ok (.invokevirtual 237, 3) := by decide +kernel
theorem dX12_readOne_5 : decode cX12_readOne 5 = .ok (.istore_n 2, 1) := by decide +kernel
theorem dX12_readOne_6 : decode cX12_readOne 6 = .ok (.aload_n 0, 1) := by decide +kernel
theorem dX12_readOne_7 : decode cX12_readOne 7 = .ok (.getfield 203, 3) := by decide +kernel
theorem dX12_readOne_10 : decode cX12_readOne 10 = .ok (.ifCond .ne 7, 3) := by decide +kernel
theorem dX12_readOne_13 : decode cX12_readOne 13 = .ok (.aload_n 0, 1) := by decide +kernel
theorem dX12_readOne_14 : decode cX12_readOne 14 = .ok (.invokevirtual 221, 3) := by decide +kernel
theorem dX12_readOne_17 : decode cX12_readOne 17 = .ok (.iload_n 2, 1) := by decide +kernel
theorem dX12_readOne_18 : decode cX12_readOne 18 = .ok (.ireturn, 1) := by decide +kernel
def f_X12_readOne (v1 : Int32) (D : aD) : Option (Int32 × aD) :=
  aBi (f_X12_oneNow v1 D) (fun y_1 D_2 => if gI D_2 88 25 ≠ 0 then (some (y_1, D_2)) else ((f_X12_stepOn D_2).bind (fun D_3 => some (y_1, D_3))))
set_option maxRecDepth 100000 in
set_option maxHeartbeats 800000 in
theorem c_X12_readOne {G : aG} (hG : gOK G) {shp : List aSh} (hS : aShp shp) {fr : Option Nat} {v1 : Int32} {D : aD} {K : Int32 → aD → Prop} (h : Ok2 (f_X12_readOne v1 D) K) : AC G (aRm 4 0 0) M_X12_readOne [.ref 88, .int v1] fr shp D (aQi shp K) := by
  replace h := Ok2.ok h
  unfold f_X12_readOne at h
  refine AC.of (al := [some (.ref 88), some (.int v1), none]) (r := 1) (by decide) (Nat.le_of_ble_eq_true rfl) rfl ?_
  refine aw_aload_n (n := 1) (i := 0) dX12_readOne_0 rfl rfl rfl ?_
  refine aw_iload_n (n := 2) (i := 1) dX12_readOne_1 rfl rfl rfl ?_
  refine aw_cVi (M := M_X12_readOne) (n := 5) (As := [.int v1]) (rest := []) hG.1 lk_RX12_237 rfl rfl (sF_88 hS) (c_X12_oneNow hG hS (h := Ok.bi h)) (by decide) (Nat.le_of_ble_eq_true rfl) (by decide) (by decide) dX12_readOne_2 rfl (fun y_1 D_2 h => ?_)
  refine aw_istore_n (n := 6) (i := 2) (al' := [some (.ref 88), some (.int v1), some (.int y_1)]) dX12_readOne_5 rfl rfl rfl (by decide) rfl ?_
  refine aw_aload_n (n := 7) (i := 0) dX12_readOne_6 rfl rfl rfl ?_
  refine aw_getI (n := 10) (j := 25) hG.1 fl_RX12_203 (sF_88 hS) rfl dX12_readOne_7 rfl ?_
  refine aw_if_ne (n := 13) (tgt := 17) dX12_readOne_10 rfl (by decide) (fun c => ?_) (fun c => ?_)
  · replace h := Ok.ift h c
    refine aw_iload_n (n := 18) (i := 2) dX12_readOne_17 rfl rfl rfl ?_
    exact aw_iret rfl (by decide) (by decide) dX12_readOne_18 ⟨_, rfl, rfl, (Ok.dn h :)⟩
  · replace h := Ok.iffn h c
    refine aw_aload_n (n := 14) (i := 0) dX12_readOne_13 rfl rfl rfl ?_
    refine aw_cVv (M := M_X12_readOne) (n := 17) (As := []) (rest := []) hG.1 lk_RX12_221 rfl rfl (sF_88 hS) (c_X12_stepOn hG hS (h := Ok.bind h)) (by decide) (Nat.le_of_ble_eq_true rfl) (by decide) (by decide) dX12_readOne_14 rfl (fun D_3 h => ?_)
    refine aw_iload_n (n := 18) (i := 2) dX12_readOne_17 rfl rfl rfl ?_
    exact aw_iret rfl (by decide) (by decide) dX12_readOne_18 ⟨_, rfl, rfl, (Ok.dn h :)⟩
theorem dX12_begin_0 : decode cX12_begin 0 = .ok (.aload_n 0, 1) := by decide +kernel
theorem dX12_begin_1 : decode cX12_begin 1 = .ok (.getfield 27, 3) := by decide +kernel
theorem dX12_begin_4 : decode cX12_begin 4 = .ok (.bipush 16, 2) := by decide +kernel
theorem dX12_begin_6 : decode cX12_begin 6 = .ok (.iload_n 1, 1) := by decide +kernel
theorem dX12_begin_7 : decode cX12_begin 7 = .ok (.iadd, 1) := by decide +kernel
theorem dX12_begin_8 : decode cX12_begin 8 = .ok (.iaload, 1) := by decide +kernel
theorem dX12_begin_9 : decode cX12_begin 9 = .ok (.iload_n 2, 1) := by decide +kernel
theorem dX12_begin_10 : decode cX12_begin 10 = .ok (.if_icmp .ne 8, 3) := by decide +kernel
theorem dX12_begin_13 : decode cX12_begin 13 = .ok (.aload_n 0, 1) := by decide +kernel
theorem dX12_begin_14 : decode cX12_begin 14 = .ok (.iconst 2, 1) := by decide +kernel
theorem dX12_begin_15 : decode cX12_begin 15 = .ok (.invokevirtual 224, 3) := by decide +kernel
theorem dX12_begin_18 : decode cX12_begin 18 = .ok (.aload_n 0, 1) := by decide +kernel
theorem dX12_begin_19 : decode cX12_begin 19 = .ok (.getfield 203, 3) := by decide +kernel
theorem dX12_begin_22 : decode cX12_begin 22 = .ok (.ifCond .eq 5, 3) := by decide +kernel
theorem dX12_begin_25 : decode cX12_begin 25 = .ok (.iconst 0, 1) := by decide +kernel
theorem dX12_begin_26 : decode cX12_begin 26 = .ok (.ireturn, 1) := by decide +kernel
theorem dX12_begin_27 : decode cX12_begin 27 = .ok (.aload_n 0, 1) := by decide +kernel
theorem dX12_begin_28 : decode cX12_begin 28 = .ok (.invokevirtual 221, 3) := by decide +kernel
theorem dX12_begin_31 : decode cX12_begin 31 = .ok (.iconst 1, 1) := by decide +kernel
theorem dX12_begin_32 : decode cX12_begin 32 = .ok (.ireturn, 1) := by decide +kernel
def J_X12_begin_18 (D : aD) : Option (Int32 × aD) :=
  if gI D 88 25 = 0 then ((f_X12_stepOn D).bind (fun D_2 => some (1, D_2))) else (some (0, D))
def f_X12_begin (v1 : Int32) (v2 : Int32) (D : aD) : Option (Int32 × aD) :=
  aGd (aIn (16 + v1) 32) (if gI D 91 (16 + v1).toNatClampNeg ≠ v2 then (J_X12_begin_18 D) else ((f_X12_wrong 2 D).bind (fun D_3 => J_X12_begin_18 D_3)))
set_option maxRecDepth 100000 in
set_option maxHeartbeats 800000 in
theorem c_X12_begin {G : aG} (hG : gOK G) {shp : List aSh} (hS : aShp shp) {fr : Option Nat} {v1 : Int32} {v2 : Int32} {D : aD} {K : Int32 → aD → Prop} (h : Ok2 (f_X12_begin v1 v2 D) K) : AC G (aRm 3 0 0) M_X12_begin [.ref 88, .int v1, .int v2] fr shp D (aQi shp K) := by
  replace h := Ok2.ok h
  unfold f_X12_begin at h
  refine AC.of (al := [some (.ref 88), some (.int v1), some (.int v2)]) (r := 0) (by decide) (Nat.le_of_ble_eq_true rfl) rfl ?_
  have hJ_18 : ∀ (D : aD), Ok (J_X12_begin_18 D) (fun r => K r.1 r.2) → AW G (aRm 3 0 0) M_X12_begin fr 0 0 18 [some (.ref 88), none, none] [] shp D (aQi shp K) := by
    intro D h
    unfold J_X12_begin_18 at h
    refine aw_aload_n (n := 19) (i := 0) dX12_begin_18 rfl rfl rfl ?_
    refine aw_getI (n := 22) (j := 25) hG.1 fl_RX12_203 (sF_88 hS) rfl dX12_begin_19 rfl ?_
    refine aw_if_eq (n := 25) (tgt := 27) dX12_begin_22 rfl (by decide) (fun c => ?_) (fun c => ?_)
    · replace h := Ok.ift h c
      refine aw_aload_n (n := 28) (i := 0) dX12_begin_27 rfl rfl rfl ?_
      refine aw_cVv (M := M_X12_begin) (n := 31) (As := []) (rest := []) hG.1 lk_RX12_221 rfl rfl (sF_88 hS) (c_X12_stepOn hG hS (h := Ok.bind h)) (by decide) (Nat.le_of_ble_eq_true rfl) (by decide) (by decide) dX12_begin_28 rfl (fun D_2 h => ?_)
      refine aw_iconst (n := 32) (v := 1) dX12_begin_31 rfl (by decide) ?_
      exact aw_zret rfl (by decide) (by decide) (by decide) dX12_begin_32 ⟨_, rfl, rfl, (Ok.dn h :)⟩
    · replace h := Ok.iff h c
      refine aw_iconst (n := 26) (v := 0) dX12_begin_25 rfl (by decide) ?_
      exact aw_zret rfl (by decide) (by decide) (by decide) dX12_begin_26 ⟨_, rfl, rfl, (Ok.dn h :)⟩
  refine aw_aload_n (n := 1) (i := 0) dX12_begin_0 rfl rfl rfl ?_
  refine aw_getR (n := 4) (j := 3) (r := 91) hG.1 fl_RX12_27 (sF_88 hS) rfl dX12_begin_1 rfl ?_
  refine aw_bipush (n := 6) (v := 16) dX12_begin_4 rfl (by decide) ?_
  refine aw_iload_n (n := 7) (i := 1) dX12_begin_6 rfl rfl rfl ?_
  refine aw_iadd (n := 8) dX12_begin_7 rfl ?_
  obtain ⟨g_1, h⟩ := Ok.gd h
  refine aw_iaload (n := 9) hG.1 (sF_91 hS) (aIn_in g_1) dX12_begin_8 rfl ?_
  refine aw_iload_n (n := 10) (i := 2) dX12_begin_9 rfl rfl rfl ?_
  refine aw_icmp_ne (n := 13) (tgt := 18) dX12_begin_10 rfl (by decide) (fun c => ?_) (fun c => ?_)
  · replace h := Ok.ift h c
    exact aw_le' (hJ_18 D h) ⟨rfl, trivial⟩
  · replace h := Ok.iffn h c
    refine aw_aload_n (n := 14) (i := 0) dX12_begin_13 rfl rfl rfl ?_
    refine aw_iconst (n := 15) (v := 2) dX12_begin_14 rfl (by decide) ?_
    refine aw_cVv (M := M_X12_begin) (n := 18) (As := [.int 2]) (rest := []) hG.1 lk_RX12_224 rfl rfl (sF_88 hS) (c_X12_wrong hG hS (h := Ok.bind h)) (by decide) (Nat.le_of_ble_eq_true rfl) (by decide) (by decide) dX12_begin_15 rfl (fun D_3 h => ?_)
    exact aw_le' (hJ_18 D_3 h) ⟨rfl, trivial⟩
theorem dX12_is_0 : decode cX12_is 0 = .ok (.aload_n 0, 1) := by decide +kernel
theorem dX12_is_1 : decode cX12_is 1 = .ok (.getfield 203, 3) := by decide +kernel
theorem dX12_is_4 : decode cX12_is 4 = .ok (.ifCond .ne 31, 3) := by decide +kernel
theorem dX12_is_7 : decode cX12_is 7 = .ok (.aload_n 0, 1) := by decide +kernel
theorem dX12_is_8 : decode cX12_is 8 = .ok (.getfield 180, 3) := by decide +kernel
theorem dX12_is_11 : decode cX12_is 11 = .ok (.iconst 1, 1) := by decide +kernel
theorem dX12_is_12 : decode cX12_is 12 = .ok (.if_icmp .ne 23, 3) := by decide +kernel
theorem dX12_is_15 : decode cX12_is 15 = .ok (.aload_n 1, 1) := by decide +kernel
theorem dX12_is_16 : decode cX12_is 16 = .ok (.invokevirtual 209, 3) := by decide +kernel
theorem dX12_is_19 : decode cX12_is 19 = .ok (.aload_n 0, 1) := by decide +kernel
theorem dX12_is_20 : decode cX12_is 20 = .ok (.getfield 200, 3) := by decide +kernel
theorem dX12_is_23 : decode cX12_is 23 = .ok (.aload_n 0, 1) := by decide +kernel
theorem dX12_is_24 : decode cX12_is 24 = .ok (.getfield 177, 3) := by decide +kernel
theorem dX12_is_27 : decode cX12_is 27 = .ok (.isub, 1) := by decide +kernel
theorem dX12_is_28 : decode cX12_is 28 = .ok (.if_icmp .ne 7, 3) := by decide +kernel
theorem dX12_is_31 : decode cX12_is 31 = .ok (.iconst 1, 1) := by decide +kernel
theorem dX12_is_32 : decode cX12_is 32 = .ok (.goto 4, 3) := by decide +kernel
theorem dX12_is_35 : decode cX12_is 35 = .ok (.iconst 0, 1) := by decide +kernel
theorem dX12_is_36 : decode cX12_is 36 = .ok (.istore_n 2, 1) := by decide +kernel
theorem dX12_is_37 : decode cX12_is 37 = .ok (.iconst 0, 1) := by decide +kernel
theorem dX12_is_38 : decode cX12_is 38 = .ok (.istore_n 3, 1) := by decide +kernel
theorem dX12_is_39 : decode cX12_is 39 = .ok (.iload_n 2, 1) := by decide +kernel
theorem dX12_is_40 : decode cX12_is 40 = .ok (.ifCond .eq 42, 3) := by decide +kernel
theorem dX12_is_43 : decode cX12_is 43 = .ok (.iload_n 3, 1) := by decide +kernel
theorem dX12_is_44 : decode cX12_is 44 = .ok (.aload_n 1, 1) := by decide +kernel
theorem dX12_is_45 : decode cX12_is 45 = .ok (.invokevirtual 209, 3) := by decide +kernel
theorem dX12_is_48 : decode cX12_is 48 = .ok (.if_icmp .ge 34, 3) := by decide +kernel
theorem dX12_is_51 : decode cX12_is 51 = .ok (.aload_n 1, 1) := by decide +kernel
theorem dX12_is_52 : decode cX12_is 52 = .ok (.iload_n 3, 1) := by decide +kernel
theorem dX12_is_53 : decode cX12_is 53 = .ok (.invokevirtual 213, 3) := by decide +kernel
theorem dX12_is_56 : decode cX12_is 56 = .ok (.aload_n 0, 1) := by decide +kernel
theorem dX12_is_57 : decode cX12_is 57 = .ok (.getfield 69, 3) := by decide +kernel
theorem dX12_is_60 : decode cX12_is 60 = .ok (.aload_n 0, 1) := by decide +kernel
theorem dX12_is_61 : decode cX12_is 61 = .ok (.getfield 177, 3) := by decide +kernel
theorem dX12_is_64 : decode cX12_is 64 = .ok (.iload_n 3, 1) := by decide +kernel
theorem dX12_is_65 : decode cX12_is 65 = .ok (.iadd, 1) := by decide +kernel
theorem dX12_is_66 : decode cX12_is 66 = .ok (.iaload, 1) := by decide +kernel
theorem dX12_is_67 : decode cX12_is 67 = .ok (.if_icmp .ne 7, 3) := by decide +kernel
theorem dX12_is_70 : decode cX12_is 70 = .ok (.iconst 1, 1) := by decide +kernel
theorem dX12_is_71 : decode cX12_is 71 = .ok (.goto 4, 3) := by decide +kernel
theorem dX12_is_74 : decode cX12_is 74 = .ok (.iconst 0, 1) := by decide +kernel
theorem dX12_is_75 : decode cX12_is 75 = .ok (.istore_n 2, 1) := by decide +kernel
theorem dX12_is_76 : decode cX12_is 76 = .ok (.iinc 3 1, 3) := by decide +kernel
theorem dX12_is_79 : decode cX12_is 79 = .ok (.goto (-40), 3) := by decide +kernel
theorem dX12_is_82 : decode cX12_is 82 = .ok (.iload_n 2, 1) := by decide +kernel
theorem dX12_is_83 : decode cX12_is 83 = .ok (.ireturn, 1) := by decide +kernel
def J_X12_is_82 (w1 : Nat) (v2 : Int32) (D : aD) : Option (Int32 × aD) :=
  aGd (aZ v2) (some (v2, D))
def B_X12_is_39 (w1 : Nat) (v2 : Int32) (v3 : Int32) (D : aD) : Option ((Int32 × Int32 × aD) ⊕ ((Int32 × aD))) :=
  if v2 = 0 then (some (.inr (v2, D))) else (if sLen w1 ≤ v3 then (some (.inr (v2, D))) else (aGd (aIn v3 (sLenN w1)) (aGd (aIn ((gI D 88 23) + v3) 700) (if sCh w1 v3 ≠ gI D 105 ((gI D 88 23) + v3).toNatClampNeg then (aLet (v3 + 1) (fun v3_4 => some (.inl (0, v3_4, D)))) else (aLet (v3 + 1) (fun v3_5 => some (.inl (1, v3_5, D))))))))
def J_X12_is_39 (w1 : Nat) (v2 : Int32) (v3 : Int32) (D : aD) : Option (Int32 × aD) :=
  (aLp (fun s => B_X12_is_39 w1 s.1 s.2.1 s.2.2) (v2, v3, D)).bind (fun r => J_X12_is_82 w1 (r.1) r.2)
def J_X12_is_36 (w1 : Nat) (t0 : Int32) (D : aD) : Option (Int32 × aD) :=
  J_X12_is_39 w1 t0 0 D
def J_X12_is_35 (w1 : Nat) (D : aD) : Option (Int32 × aD) :=
  J_X12_is_36 w1 0 D
def f_X12_is (w1 : Nat) (D : aD) : Option (Int32 × aD) :=
  if gI D 88 25 ≠ 0 then (J_X12_is_35 w1 D) else (if gI D 88 21 ≠ 1 then (J_X12_is_35 w1 D) else (if sLen w1 ≠ (gI D 88 24) - (gI D 88 23) then (J_X12_is_35 w1 D) else (J_X12_is_36 w1 1 D)))
set_option maxRecDepth 100000 in
set_option maxHeartbeats 800000 in
theorem c_X12_is {G : aG} (hG : gOK G) {shp : List aSh} (hS : aShp shp) {fr : Option Nat} {w1 : Nat} {D : aD} {K : Int32 → aD → Prop} (h : Ok2 (f_X12_is w1 D) K) (hw1 : w1 < 13) : AC G (aRm 8 0 0) M_X12_is [.ref 88, .ref (10000 + w1)] fr shp D (aQi shp K) := by
  replace h := Ok2.ok h
  unfold f_X12_is at h
  refine AC.of (al := [some (.ref 88), some (.ref (10000 + w1)), none, none]) (r := 2) (by decide) (Nat.le_of_ble_eq_true rfl) rfl ?_
  have hJ_82 : ∀ (v2 : Int32) (D : aD), Ok (J_X12_is_82 w1 v2 D) (fun r => K r.1 r.2) → AW G (aRm 8 0 0) M_X12_is fr 0 0 82 [none, none, some (.int v2), none] [] shp D (aQi shp K) := by
    intro v2 D h
    unfold J_X12_is_82 at h
    refine aw_iload_n (n := 83) (i := 2) dX12_is_82 rfl rfl rfl ?_
    obtain ⟨g_1, h⟩ := Ok.gd h
    exact aw_zret rfl (aZ_or g_1) (by decide) (by decide) dX12_is_83 ⟨_, rfl, rfl, (Ok.dn h :)⟩
  have hJ_39 : ∀ (v2 : Int32) (v3 : Int32) (D : aD), Ok (J_X12_is_39 w1 v2 v3 D) (fun r => K r.1 r.2) → AW G (aRm 8 0 0) M_X12_is fr 0 0 39 [some (.ref 88), some (.ref (10000 + w1)), some (.int v2), some (.int v3)] [] shp D (aQi shp K) := by
    intro v2 v3 D h
    unfold J_X12_is_39 at h
    refine Ok.lp (P := fun s => AW G (aRm 8 0 0) M_X12_is fr 0 0 39 [some (.ref 88), some (.ref (10000 + w1)), some (.int (s.1)), some (.int (s.2.1))] [] shp s.2.2 (aQi shp K)) (fun s Kb39 hL39 hR39 h => ?_) (v2, v3, D) (Ok.bind h)
    obtain ⟨v2, v3, D⟩ := s
    replace h : Ok (B_X12_is_39 w1 v2 v3 D) Kb39 := h
    unfold B_X12_is_39 at h
    refine aw_iload_n (n := 40) (i := 2) dX12_is_39 rfl rfl rfl ?_
    refine aw_if_eq (n := 43) (tgt := 82) dX12_is_40 rfl (by decide) (fun c => ?_) (fun c => ?_)
    · replace h := Ok.ift h c
      exact aw_le' (hJ_82 v2 D (hR39 (v2, D) (Ok.dn h :))) ⟨rfl, trivial⟩
    · replace h := Ok.iff h c
      refine aw_iload_n (n := 44) (i := 3) dX12_is_43 rfl rfl rfl ?_
      refine aw_aload_n (n := 45) (i := 1) dX12_is_44 rfl rfl rfl ?_
      refine aw_strlen (M := M_X12_is) (n := 48) (w := w1) hG lk_RX12_209 hw1 rfl rfl ⟨rfl, rfl⟩ dX12_is_45 rfl ?_
      refine aw_icmp_ge (n := 51) (tgt := 82) dX12_is_48 rfl (by decide) (fun c => ?_) (fun c => ?_)
      · replace h := Ok.ift h c
        exact aw_le' (hJ_82 v2 D (hR39 (v2, D) (Ok.dn h :))) ⟨rfl, trivial⟩
      · replace h := Ok.iff h c
        refine aw_aload_n (n := 52) (i := 1) dX12_is_51 rfl rfl rfl ?_
        refine aw_iload_n (n := 53) (i := 3) dX12_is_52 rfl rfl rfl ?_
        obtain ⟨g_2, h⟩ := Ok.gd h
        refine aw_strchar (M := M_X12_is) (n := 56) (w := w1) hG lk_RX12_213 hw1 (aIn_in g_2) rfl rfl ⟨rfl, rfl⟩ dX12_is_53 rfl ?_
        refine aw_aload_n (n := 57) (i := 0) dX12_is_56 rfl rfl rfl ?_
        refine aw_getR (n := 60) (j := 17) (r := 105) hG.1 fl_RX12_69 (sF_88 hS) rfl dX12_is_57 rfl ?_
        refine aw_aload_n (n := 61) (i := 0) dX12_is_60 rfl rfl rfl ?_
        refine aw_getI (n := 64) (j := 23) hG.1 fl_RX12_177 (sF_88 hS) rfl dX12_is_61 rfl ?_
        refine aw_iload_n (n := 65) (i := 3) dX12_is_64 rfl rfl rfl ?_
        refine aw_iadd (n := 66) dX12_is_65 rfl ?_
        obtain ⟨g_3, h⟩ := Ok.gd h
        refine aw_iaload (n := 67) hG.1 (sF_105 hS) (aIn_in g_3) dX12_is_66 rfl ?_
        refine aw_icmp_ne (n := 70) (tgt := 74) dX12_is_67 rfl (by decide) (fun c => ?_) (fun c => ?_)
        · replace h := Ok.ift h c
          refine aw_iconst (n := 75) (v := 0) dX12_is_74 rfl (by decide) ?_
          refine aw_istore_n (n := 76) (i := 2) (al' := [some (.ref 88), some (.ref (10000 + w1)), some (.int 0), some (.int v3)]) dX12_is_75 rfl rfl rfl (by decide) rfl ?_
          obtain ⟨v3_4, e_v3_4, h⟩ := Ok.let_ h
          refine aw_iinc (n := 79) (al' := [some (.ref 88), some (.ref (10000 + w1)), some (.int 0), some (.int v3_4)]) dX12_is_76 rfl rfl e_v3_4 (by decide) rfl ?_
          refine aw_goto (tgt := 39) dX12_is_79 (by decide) ?_
          exact aw_le' (hL39 (0, v3_4, D) (Ok.dn h :)) ⟨rfl, ⟨rfl, ⟨rfl, ⟨rfl, trivial⟩⟩⟩⟩
        · replace h := Ok.iffn h c
          refine aw_iconst (n := 71) (v := 1) dX12_is_70 rfl (by decide) ?_
          refine aw_goto (tgt := 75) dX12_is_71 (by decide) ?_
          refine aw_istore_n (n := 76) (i := 2) (al' := [some (.ref 88), some (.ref (10000 + w1)), some (.int 1), some (.int v3)]) dX12_is_75 rfl rfl rfl (by decide) rfl ?_
          obtain ⟨v3_5, e_v3_5, h⟩ := Ok.let_ h
          refine aw_iinc (n := 79) (al' := [some (.ref 88), some (.ref (10000 + w1)), some (.int 1), some (.int v3_5)]) dX12_is_76 rfl rfl e_v3_5 (by decide) rfl ?_
          refine aw_goto (tgt := 39) dX12_is_79 (by decide) ?_
          exact aw_le' (hL39 (1, v3_5, D) (Ok.dn h :)) ⟨rfl, ⟨rfl, ⟨rfl, ⟨rfl, trivial⟩⟩⟩⟩
  have hJ_36 : ∀ (t0 : Int32) (D : aD), Ok (J_X12_is_36 w1 t0 D) (fun r => K r.1 r.2) → AW G (aRm 8 0 0) M_X12_is fr 0 0 36 [some (.ref 88), some (.ref (10000 + w1)), none, none] [.int t0] shp D (aQi shp K) := by
    intro t0 D h
    unfold J_X12_is_36 at h
    refine aw_istore_n (n := 37) (i := 2) (al' := [some (.ref 88), some (.ref (10000 + w1)), some (.int t0), none]) dX12_is_36 rfl rfl rfl (by decide) rfl ?_
    refine aw_iconst (n := 38) (v := 0) dX12_is_37 rfl (by decide) ?_
    refine aw_istore_n (n := 39) (i := 3) (al' := [some (.ref 88), some (.ref (10000 + w1)), some (.int t0), some (.int 0)]) dX12_is_38 rfl rfl rfl (by decide) rfl ?_
    exact aw_le' (hJ_39 t0 0 D h) ⟨rfl, ⟨rfl, ⟨rfl, ⟨rfl, trivial⟩⟩⟩⟩
  have hJ_35 : ∀ (D : aD), Ok (J_X12_is_35 w1 D) (fun r => K r.1 r.2) → AW G (aRm 8 0 0) M_X12_is fr 0 0 35 [some (.ref 88), some (.ref (10000 + w1)), none, none] [] shp D (aQi shp K) := by
    intro D h
    unfold J_X12_is_35 at h
    refine aw_iconst (n := 36) (v := 0) dX12_is_35 rfl (by decide) ?_
    exact aw_le' (hJ_36 0 D h) ⟨rfl, ⟨rfl, trivial⟩⟩
  refine aw_aload_n (n := 1) (i := 0) dX12_is_0 rfl rfl rfl ?_
  refine aw_getI (n := 4) (j := 25) hG.1 fl_RX12_203 (sF_88 hS) rfl dX12_is_1 rfl ?_
  refine aw_if_ne (n := 7) (tgt := 35) dX12_is_4 rfl (by decide) (fun c => ?_) (fun c => ?_)
  · replace h := Ok.ift h c
    exact aw_le' (hJ_35 D h) ⟨rfl, ⟨rfl, trivial⟩⟩
  · replace h := Ok.iffn h c
    refine aw_aload_n (n := 8) (i := 0) dX12_is_7 rfl rfl rfl ?_
    refine aw_getI (n := 11) (j := 21) hG.1 fl_RX12_180 (sF_88 hS) rfl dX12_is_8 rfl ?_
    refine aw_iconst (n := 12) (v := 1) dX12_is_11 rfl (by decide) ?_
    refine aw_icmp_ne (n := 15) (tgt := 35) dX12_is_12 rfl (by decide) (fun c => ?_) (fun c => ?_)
    · replace h := Ok.ift h c
      exact aw_le' (hJ_35 D h) ⟨rfl, ⟨rfl, trivial⟩⟩
    · replace h := Ok.iffn h c
      refine aw_aload_n (n := 16) (i := 1) dX12_is_15 rfl rfl rfl ?_
      refine aw_strlen (M := M_X12_is) (n := 19) (w := w1) hG lk_RX12_209 hw1 rfl rfl ⟨rfl, rfl⟩ dX12_is_16 rfl ?_
      refine aw_aload_n (n := 20) (i := 0) dX12_is_19 rfl rfl rfl ?_
      refine aw_getI (n := 23) (j := 24) hG.1 fl_RX12_200 (sF_88 hS) rfl dX12_is_20 rfl ?_
      refine aw_aload_n (n := 24) (i := 0) dX12_is_23 rfl rfl rfl ?_
      refine aw_getI (n := 27) (j := 23) hG.1 fl_RX12_177 (sF_88 hS) rfl dX12_is_24 rfl ?_
      refine aw_isub (n := 28) dX12_is_27 rfl ?_
      refine aw_icmp_ne (n := 31) (tgt := 35) dX12_is_28 rfl (by decide) (fun c => ?_) (fun c => ?_)
      · replace h := Ok.ift h c
        exact aw_le' (hJ_35 D h) ⟨rfl, ⟨rfl, trivial⟩⟩
      · replace h := Ok.iffn h c
        refine aw_iconst (n := 32) (v := 1) dX12_is_31 rfl (by decide) ?_
        refine aw_goto (tgt := 36) dX12_is_32 (by decide) ?_
        exact aw_le' (hJ_36 1 D h) ⟨rfl, ⟨rfl, trivial⟩⟩
theorem dX12_readSort_0 : decode cX12_readSort 0 = .ok (.aload_n 0, 1) := by decide +kernel
theorem dX12_readSort_1 : decode cX12_readSort 1 = .ok (.ldc 240, 2) := by decide +kernel
theorem dX12_readSort_3 : decode cX12_readSort 3 = .ok (.invokevirtual 217, 3) := by decide +kernel
theorem dX12_readSort_6 : decode cX12_readSort 6 = .ok (.ifCond .eq 7, 3) := by decide +kernel
theorem dX12_readSort_9 : decode cX12_readSort 9 = .ok (.iconst 1, 1) := by decide +kernel
theorem dX12_readSort_10 : decode cX12_readSort 10 = .ok (.goto 4, 3) := by decide +kernel
theorem dX12_readSort_13 : decode cX12_readSort 13 = .ok (.iconst 0, 1) := by decide +kernel
theorem dX12_readSort_14 : decode cX12_readSort 14 = .ok (.istore_n 1, 1) := by decide +kernel
theorem dX12_readSort_15 : decode cX12_readSort 15 = .ok (.aload_n 0, 1) := by decide +kernel
theorem dX12_readSort_16 : decode cX12_readSort 16 = .ok (.iconst 2, 1) := by decide +kernel
theorem dX12_readSort_17 : decode cX12_readSort 17 = .ok (.bipush 6, 2) := by decide +kernel
theorem dX12_readSort_19 : decode cX12_readSort 19 = .ok (.invokevirtual 241, 3) := by decide +kernel
theorem dX12_readSort_22 : decode cX12_readSort 22 = .ok (.ifCond .ne 4, 3) := by decide +kernel
theorem dX12_readSort_25 : decode cX12_readSort 25 = .ok (.return_, 1) := by decide +kernel
theorem dX12_readSort_26 : decode cX12_readSort 26 = .ok (.bipush 6, 2) := by decide +kernel
theorem dX12_readSort_28 : decode cX12_readSort 28 = .ok (.aload_n 0, 1) := by decide +kernel
theorem dX12_readSort_29 : decode cX12_readSort 29 = .ok (.getfield 27, 3) := by decide +kernel
theorem dX12_readSort_32 : decode cX12_readSort 32 = .ok (.bipush 18, 2) := by decide +kernel
theorem dX12_readSort_34 : decode cX12_readSort 34 = .ok (.iaload, 1) := by decide +kernel
theorem dX12_readSort_35 : decode cX12_readSort 35 = .ok (.iadd, 1) := by decide +kernel
theorem dX12_readSort_36 : decode cX12_readSort 36 = .ok (.istore_n 2, 1) := by decide +kernel
theorem dX12_readSort_37 : decode cX12_readSort 37 = .ok (.aload_n 0, 1) := by decide +kernel
theorem dX12_readSort_38 : decode cX12_readSort 38 = .ok (.getfield 48, 3) := by decide +kernel
theorem dX12_readSort_41 : decode cX12_readSort 41 = .ok (.iload_n 2, 1) := by decide +kernel
theorem dX12_readSort_42 : decode cX12_readSort 42 = .ok (.iload_n 1, 1) := by decide +kernel
theorem dX12_readSort_43 : decode cX12_readSort 43 = .ok (.iastore, 1) := by decide +kernel
theorem dX12_readSort_44 : decode cX12_readSort 44 = .ok (.aload_n 0, 1) := by decide +kernel
theorem dX12_readSort_45 : decode cX12_readSort 45 = .ok (.getfield 30, 3) := by decide +kernel
theorem dX12_readSort_48 : decode cX12_readSort 48 = .ok (.iload_n 2, 1) := by decide +kernel
theorem dX12_readSort_49 : decode cX12_readSort 49 = .ok (.aload_n 0, 1) := by decide +kernel
theorem dX12_readSort_50 : decode cX12_readSort 50 = .ok (.iconst 1, 1) := by decide +kernel
theorem dX12_readSort_51 : decode cX12_readSort 51 = .ok (.bipush 99, 2) := by decide +kernel
theorem dX12_readSort_53 : decode cX12_readSort 53 = .ok (.invokevirtual 234, 3) := by decide +kernel
theorem dX12_readSort_56 : decode cX12_readSort 56 = .ok (.iastore, 1) := by decide +kernel
theorem dX12_readSort_57 : decode cX12_readSort 57 = .ok (.aload_n 0, 1) := by decide +kernel
theorem dX12_readSort_58 : decode cX12_readSort 58 = .ok (.getfield 33, 3) := by decide +kernel
theorem dX12_readSort_61 : decode cX12_readSort 61 = .ok (.iload_n 2, 1) := by decide +kernel
theorem dX12_readSort_62 : decode cX12_readSort 62 = .ok (.aload_n 0, 1) := by decide +kernel
theorem dX12_readSort_63 : decode cX12_readSort 63 = .ok (.iconst 0, 1) := by decide +kernel
theorem dX12_readSort_64 : decode cX12_readSort 64 = .ok (.bipush 51, 2) := by decide +kernel
theorem dX12_readSort_66 : decode cX12_readSort 66 = .ok (.invokevirtual 234, 3) := by decide +kernel
theorem dX12_readSort_69 : decode cX12_readSort 69 = .ok (.iastore, 1) := by decide +kernel
theorem dX12_readSort_70 : decode cX12_readSort 70 = .ok (.aload_n 0, 1) := by decide +kernel
theorem dX12_readSort_71 : decode cX12_readSort 71 = .ok (.getfield 36, 3) := by decide +kernel
theorem dX12_readSort_74 : decode cX12_readSort 74 = .ok (.iload_n 2, 1) := by decide +kernel
theorem dX12_readSort_75 : decode cX12_readSort 75 = .ok (.aload_n 0, 1) := by decide +kernel
theorem dX12_readSort_76 : decode cX12_readSort 76 = .ok (.aload_n 0, 1) := by decide +kernel
theorem dX12_readSort_77 : decode cX12_readSort 77 = .ok (.getfield 33, 3) := by decide +kernel
theorem dX12_readSort_80 : decode cX12_readSort 80 = .ok (.iload_n 2, 1) := by decide +kernel
theorem dX12_readSort_81 : decode cX12_readSort 81 = .ok (.iaload, 1) := by decide +kernel
theorem dX12_readSort_82 : decode cX12_readSort 82 = .ok (.bipush 51, 2) := by decide +kernel
theorem dX12_readSort_84 : decode cX12_readSort 84 = .ok (.invokevirtual 234, 3) := by decide +kernel
theorem dX12_readSort_87 : decode cX12_readSort 87 = .ok (.iastore, 1) := by decide +kernel
theorem dX12_readSort_88 : decode cX12_readSort 88 = .ok (.aload_n 0, 1) := by decide +kernel
theorem dX12_readSort_89 : decode cX12_readSort 89 = .ok (.getfield 39, 3) := by decide +kernel
theorem dX12_readSort_92 : decode cX12_readSort 92 = .ok (.iload_n 2, 1) := by decide +kernel
theorem dX12_readSort_93 : decode cX12_readSort 93 = .ok (.aload_n 0, 1) := by decide +kernel
theorem dX12_readSort_94 : decode cX12_readSort 94 = .ok (.iconst 0, 1) := by decide +kernel
theorem dX12_readSort_95 : decode cX12_readSort 95 = .ok (.bipush 23, 2) := by decide +kernel
theorem dX12_readSort_97 : decode cX12_readSort 97 = .ok (.invokevirtual 234, 3) := by decide +kernel
theorem dX12_readSort_100 : decode cX12_readSort 100 = .ok (.iastore, 1) := by decide +kernel
theorem dX12_readSort_101 : decode cX12_readSort 101 = .ok (.aload_n 0, 1) := by decide +kernel
theorem dX12_readSort_102 : decode cX12_readSort 102 = .ok (.getfield 42, 3) := by decide +kernel
theorem dX12_readSort_105 : decode cX12_readSort 105 = .ok (.iload_n 2, 1) := by decide +kernel
theorem dX12_readSort_106 : decode cX12_readSort 106 = .ok (.aload_n 0, 1) := by decide +kernel
theorem dX12_readSort_107 : decode cX12_readSort 107 = .ok (.aload_n 0, 1) := by decide +kernel
theorem dX12_readSort_108 : decode cX12_readSort 108 = .ok (.getfield 39, 3) := by decide +kernel
theorem dX12_readSort_111 : decode cX12_readSort 111 = .ok (.iload_n 2, 1) := by decide +kernel
theorem dX12_readSort_112 : decode cX12_readSort 112 = .ok (.iaload, 1) := by decide +kernel
theorem dX12_readSort_113 : decode cX12_readSort 113 = .ok (.bipush 23, 2) := by decide +kernel
theorem dX12_readSort_115 : decode cX12_readSort 115 = .ok (.invokevirtual 234, 3) := by decide +kernel
theorem dX12_readSort_118 : decode cX12_readSort 118 = .ok (.iastore, 1) := by decide +kernel
theorem dX12_readSort_119 : decode cX12_readSort 119 = .ok (.aload_n 0, 1) := by decide +kernel
theorem dX12_readSort_120 : decode cX12_readSort 120 = .ok (.getfield 45, 3) := by decide +kernel
theorem dX12_readSort_123 : decode cX12_readSort 123 = .ok (.iload_n 2, 1) := by decide +kernel
theorem dX12_readSort_124 : decode cX12_readSort 124 = .ok (.aload_n 0, 1) := by decide +kernel
theorem dX12_readSort_125 : decode cX12_readSort 125 = .ok (.bipush 9, 2) := by decide +kernel
theorem dX12_readSort_127 : decode cX12_readSort 127 = .ok (.invokevirtual 245, 3) := by decide +kernel
theorem dX12_readSort_130 : decode cX12_readSort 130 = .ok (.iastore, 1) := by decide +kernel
theorem dX12_readSort_131 : decode cX12_readSort 131 = .ok (.aload_n 0, 1) := by decide +kernel
theorem dX12_readSort_132 : decode cX12_readSort 132 = .ok (.getfield 27, 3) := by decide +kernel
theorem dX12_readSort_135 : decode cX12_readSort 135 = .ok (.bipush 18, 2) := by decide +kernel
theorem dX12_readSort_137 : decode cX12_readSort 137 = .ok (.dup2, 1) := by decide +kernel
theorem dX12_readSort_138 : decode cX12_readSort 138 = .ok (.iaload, 1) := by decide +kernel
theorem dX12_readSort_139 : decode cX12_readSort 139 = .ok (.iconst 1, 1) := by decide +kernel
theorem dX12_readSort_140 : decode cX12_readSort 140 = .ok (.iadd, 1) := by decide +kernel
theorem dX12_readSort_141 : decode cX12_readSort 141 = .ok (.iastore, 1) := by decide +kernel
theorem dX12_readSort_142 : decode cX12_readSort 142 = .ok (.return_, 1) := by decide +kernel
def J_X12_readSort_14 (t0 : Int32) (D : aD) : Option (aD) :=
  aBi (f_X12_begin 2 6 D) (fun y_3 D_4 => if y_3 ≠ 0 then (aGd (aIn 18 32) (aLet (6 + (gI D_4 91 (18 : Int32).toNatClampNeg)) (fun v2_6 => aGd (aIn v2_6 12) (aLet (pI D_4 98 v2_6.toNatClampNeg t0) (fun D_8 => aBi (f_X12_readNumber 1 99 D_8) (fun y_9 D_10 => aGd (aIn v2_6 12) (aLet (pI D_10 92 v2_6.toNatClampNeg y_9) (fun D_12 => aBi (f_X12_readNumber 0 51 D_12) (fun y_13 D_14 => aGd (aIn v2_6 12) (aLet (pI D_14 93 v2_6.toNatClampNeg y_13) (fun D_16 => aGd (aIn v2_6 12) (aBi (f_X12_readNumber (gI D_16 93 v2_6.toNatClampNeg) 51 D_16) (fun y_18 D_19 => aGd (aIn v2_6 12) (aLet (pI D_19 94 v2_6.toNatClampNeg y_18) (fun D_21 => aBi (f_X12_readNumber 0 23 D_21) (fun y_22 D_23 => aGd (aIn v2_6 12) (aLet (pI D_23 95 v2_6.toNatClampNeg y_22) (fun D_25 => aGd (aIn v2_6 12) (aBi (f_X12_readNumber (gI D_25 95 v2_6.toNatClampNeg) 23 D_25) (fun y_27 D_28 => aGd (aIn v2_6 12) (aLet (pI D_28 96 v2_6.toNatClampNeg y_27) (fun D_30 => aBi (f_X12_readSigned 9 D_30) (fun y_31 D_32 => aGd (aIn v2_6 12) (aLet (pI D_32 97 v2_6.toNatClampNeg y_31) (fun D_34 => aGd (aIn 18 32) (aGd (aIn 18 32) (aLet (pI D_34 91 (18 : Int32).toNatClampNeg ((gI D_34 91 (18 : Int32).toNatClampNeg) + 1)) (fun D_37 => some D_37)))))))))))))))))))))))))))) else (some D_4))
def f_X12_readSort (D : aD) : Option (aD) :=
  aBi (f_X12_is 7 D) (fun y_1 D_2 => if y_1 = 0 then (J_X12_readSort_14 0 D_2) else (J_X12_readSort_14 1 D_2))
set_option maxRecDepth 100000 in
set_option maxHeartbeats 800000 in
theorem c_X12_readSort {G : aG} (hG : gOK G) {shp : List aSh} (hS : aShp shp) {fr : Option Nat} {D : aD} {K : aD → Prop} (h : Ok (f_X12_readSort D) K) : AC G (aRm 9 0 0) M_X12_readSort [.ref 88] fr shp D (aQv shp K) := by
  unfold f_X12_readSort at h
  refine AC.of (al := [some (.ref 88), none, none]) (r := 2) (by decide) (Nat.le_of_ble_eq_true rfl) rfl ?_
  have hJ_14 : ∀ (t0 : Int32) (D : aD), Ok (J_X12_readSort_14 t0 D) K → AW G (aRm 9 0 0) M_X12_readSort fr 0 0 14 [some (.ref 88), none, none] [.int t0] shp D (aQv shp K) := by
    intro t0 D h
    unfold J_X12_readSort_14 at h
    refine aw_istore_n (n := 15) (i := 1) (al' := [some (.ref 88), some (.int t0), none]) dX12_readSort_14 rfl rfl rfl (by decide) rfl ?_
    refine aw_aload_n (n := 16) (i := 0) dX12_readSort_15 rfl rfl rfl ?_
    refine aw_iconst (n := 17) (v := 2) dX12_readSort_16 rfl (by decide) ?_
    refine aw_bipush (n := 19) (v := 6) dX12_readSort_17 rfl (by decide) ?_
    refine aw_cVi (M := M_X12_readSort) (n := 22) (As := [.int 2, .int 6]) (rest := []) hG.1 lk_RX12_241 rfl rfl (sF_88 hS) (c_X12_begin hG hS (h := Ok.bi h)) (by decide) (Nat.le_of_ble_eq_true rfl) (by decide) (by decide) dX12_readSort_19 rfl (fun y_3 D_4 h => ?_)
    refine aw_if_ne (n := 25) (tgt := 26) dX12_readSort_22 rfl (by decide) (fun c => ?_) (fun c => ?_)
    · replace h := Ok.ift h c
      refine aw_bipush (n := 28) (v := 6) dX12_readSort_26 rfl (by decide) ?_
      refine aw_aload_n (n := 29) (i := 0) dX12_readSort_28 rfl rfl rfl ?_
      refine aw_getR (n := 32) (j := 3) (r := 91) hG.1 fl_RX12_27 (sF_88 hS) rfl dX12_readSort_29 rfl ?_
      refine aw_bipush (n := 34) (v := 18) dX12_readSort_32 rfl (by decide) ?_
      obtain ⟨g_5, h⟩ := Ok.gd h
      refine aw_iaload (n := 35) hG.1 (sF_91 hS) (aIn_in g_5) dX12_readSort_34 rfl ?_
      refine aw_iadd (n := 36) dX12_readSort_35 rfl ?_
      obtain ⟨v2_6, e_v2_6, h⟩ := Ok.let_ h
      refine aw_istore_n (n := 37) (i := 2) (al' := [some (.ref 88), some (.int t0), some (.int v2_6)]) dX12_readSort_36 rfl rfl e_v2_6 (by decide) rfl ?_
      refine aw_aload_n (n := 38) (i := 0) dX12_readSort_37 rfl rfl rfl ?_
      refine aw_getR (n := 41) (j := 10) (r := 98) hG.1 fl_RX12_48 (sF_88 hS) rfl dX12_readSort_38 rfl ?_
      refine aw_iload_n (n := 42) (i := 2) dX12_readSort_41 rfl rfl rfl ?_
      refine aw_iload_n (n := 43) (i := 1) dX12_readSort_42 rfl rfl rfl ?_
      obtain ⟨g_7, h⟩ := Ok.gd h
      obtain ⟨D_8, e_D_8, h⟩ := Ok.let_ h
      refine aw_iastore (n := 44) hG.1 (sF_98 hS) (aIn_in g_7) e_D_8 dX12_readSort_43 rfl ?_
      refine aw_aload_n (n := 45) (i := 0) dX12_readSort_44 rfl rfl rfl ?_
      refine aw_getR (n := 48) (j := 4) (r := 92) hG.1 fl_RX12_30 (sF_88 hS) rfl dX12_readSort_45 rfl ?_
      refine aw_iload_n (n := 49) (i := 2) dX12_readSort_48 rfl rfl rfl ?_
      refine aw_aload_n (n := 50) (i := 0) dX12_readSort_49 rfl rfl rfl ?_
      refine aw_iconst (n := 51) (v := 1) dX12_readSort_50 rfl (by decide) ?_
      refine aw_bipush (n := 53) (v := 99) dX12_readSort_51 rfl (by decide) ?_
      refine aw_cVi (M := M_X12_readSort) (n := 56) (As := [.int 1, .int 99]) (rest := [.int v2_6, .ref 92]) hG.1 lk_RX12_234 rfl rfl (sF_88 hS) (c_X12_readNumber hG hS (h := Ok.bi h)) (by decide) (Nat.le_of_ble_eq_true rfl) (by decide) (by decide) dX12_readSort_53 rfl (fun y_9 D_10 h => ?_)
      obtain ⟨g_11, h⟩ := Ok.gd h
      obtain ⟨D_12, e_D_12, h⟩ := Ok.let_ h
      refine aw_iastore (n := 57) hG.1 (sF_92 hS) (aIn_in g_11) e_D_12 dX12_readSort_56 rfl ?_
      refine aw_aload_n (n := 58) (i := 0) dX12_readSort_57 rfl rfl rfl ?_
      refine aw_getR (n := 61) (j := 5) (r := 93) hG.1 fl_RX12_33 (sF_88 hS) rfl dX12_readSort_58 rfl ?_
      refine aw_iload_n (n := 62) (i := 2) dX12_readSort_61 rfl rfl rfl ?_
      refine aw_aload_n (n := 63) (i := 0) dX12_readSort_62 rfl rfl rfl ?_
      refine aw_iconst (n := 64) (v := 0) dX12_readSort_63 rfl (by decide) ?_
      refine aw_bipush (n := 66) (v := 51) dX12_readSort_64 rfl (by decide) ?_
      refine aw_cVi (M := M_X12_readSort) (n := 69) (As := [.int 0, .int 51]) (rest := [.int v2_6, .ref 93]) hG.1 lk_RX12_234 rfl rfl (sF_88 hS) (c_X12_readNumber hG hS (h := Ok.bi h)) (by decide) (Nat.le_of_ble_eq_true rfl) (by decide) (by decide) dX12_readSort_66 rfl (fun y_13 D_14 h => ?_)
      obtain ⟨g_15, h⟩ := Ok.gd h
      obtain ⟨D_16, e_D_16, h⟩ := Ok.let_ h
      refine aw_iastore (n := 70) hG.1 (sF_93 hS) (aIn_in g_15) e_D_16 dX12_readSort_69 rfl ?_
      refine aw_aload_n (n := 71) (i := 0) dX12_readSort_70 rfl rfl rfl ?_
      refine aw_getR (n := 74) (j := 6) (r := 94) hG.1 fl_RX12_36 (sF_88 hS) rfl dX12_readSort_71 rfl ?_
      refine aw_iload_n (n := 75) (i := 2) dX12_readSort_74 rfl rfl rfl ?_
      refine aw_aload_n (n := 76) (i := 0) dX12_readSort_75 rfl rfl rfl ?_
      refine aw_aload_n (n := 77) (i := 0) dX12_readSort_76 rfl rfl rfl ?_
      refine aw_getR (n := 80) (j := 5) (r := 93) hG.1 fl_RX12_33 (sF_88 hS) rfl dX12_readSort_77 rfl ?_
      refine aw_iload_n (n := 81) (i := 2) dX12_readSort_80 rfl rfl rfl ?_
      obtain ⟨g_17, h⟩ := Ok.gd h
      refine aw_iaload (n := 82) hG.1 (sF_93 hS) (aIn_in g_17) dX12_readSort_81 rfl ?_
      refine aw_bipush (n := 84) (v := 51) dX12_readSort_82 rfl (by decide) ?_
      refine aw_cVi (M := M_X12_readSort) (n := 87) (As := [.int (gI D_16 93 v2_6.toNatClampNeg), .int 51]) (rest := [.int v2_6, .ref 94]) hG.1 lk_RX12_234 rfl rfl (sF_88 hS) (c_X12_readNumber hG hS (h := Ok.bi h)) (by decide) (Nat.le_of_ble_eq_true rfl) (by decide) (by decide) dX12_readSort_84 rfl (fun y_18 D_19 h => ?_)
      obtain ⟨g_20, h⟩ := Ok.gd h
      obtain ⟨D_21, e_D_21, h⟩ := Ok.let_ h
      refine aw_iastore (n := 88) hG.1 (sF_94 hS) (aIn_in g_20) e_D_21 dX12_readSort_87 rfl ?_
      refine aw_aload_n (n := 89) (i := 0) dX12_readSort_88 rfl rfl rfl ?_
      refine aw_getR (n := 92) (j := 7) (r := 95) hG.1 fl_RX12_39 (sF_88 hS) rfl dX12_readSort_89 rfl ?_
      refine aw_iload_n (n := 93) (i := 2) dX12_readSort_92 rfl rfl rfl ?_
      refine aw_aload_n (n := 94) (i := 0) dX12_readSort_93 rfl rfl rfl ?_
      refine aw_iconst (n := 95) (v := 0) dX12_readSort_94 rfl (by decide) ?_
      refine aw_bipush (n := 97) (v := 23) dX12_readSort_95 rfl (by decide) ?_
      refine aw_cVi (M := M_X12_readSort) (n := 100) (As := [.int 0, .int 23]) (rest := [.int v2_6, .ref 95]) hG.1 lk_RX12_234 rfl rfl (sF_88 hS) (c_X12_readNumber hG hS (h := Ok.bi h)) (by decide) (Nat.le_of_ble_eq_true rfl) (by decide) (by decide) dX12_readSort_97 rfl (fun y_22 D_23 h => ?_)
      obtain ⟨g_24, h⟩ := Ok.gd h
      obtain ⟨D_25, e_D_25, h⟩ := Ok.let_ h
      refine aw_iastore (n := 101) hG.1 (sF_95 hS) (aIn_in g_24) e_D_25 dX12_readSort_100 rfl ?_
      refine aw_aload_n (n := 102) (i := 0) dX12_readSort_101 rfl rfl rfl ?_
      refine aw_getR (n := 105) (j := 8) (r := 96) hG.1 fl_RX12_42 (sF_88 hS) rfl dX12_readSort_102 rfl ?_
      refine aw_iload_n (n := 106) (i := 2) dX12_readSort_105 rfl rfl rfl ?_
      refine aw_aload_n (n := 107) (i := 0) dX12_readSort_106 rfl rfl rfl ?_
      refine aw_aload_n (n := 108) (i := 0) dX12_readSort_107 rfl rfl rfl ?_
      refine aw_getR (n := 111) (j := 7) (r := 95) hG.1 fl_RX12_39 (sF_88 hS) rfl dX12_readSort_108 rfl ?_
      refine aw_iload_n (n := 112) (i := 2) dX12_readSort_111 rfl rfl rfl ?_
      obtain ⟨g_26, h⟩ := Ok.gd h
      refine aw_iaload (n := 113) hG.1 (sF_95 hS) (aIn_in g_26) dX12_readSort_112 rfl ?_
      refine aw_bipush (n := 115) (v := 23) dX12_readSort_113 rfl (by decide) ?_
      refine aw_cVi (M := M_X12_readSort) (n := 118) (As := [.int (gI D_25 95 v2_6.toNatClampNeg), .int 23]) (rest := [.int v2_6, .ref 96]) hG.1 lk_RX12_234 rfl rfl (sF_88 hS) (c_X12_readNumber hG hS (h := Ok.bi h)) (by decide) (Nat.le_of_ble_eq_true rfl) (by decide) (by decide) dX12_readSort_115 rfl (fun y_27 D_28 h => ?_)
      obtain ⟨g_29, h⟩ := Ok.gd h
      obtain ⟨D_30, e_D_30, h⟩ := Ok.let_ h
      refine aw_iastore (n := 119) hG.1 (sF_96 hS) (aIn_in g_29) e_D_30 dX12_readSort_118 rfl ?_
      refine aw_aload_n (n := 120) (i := 0) dX12_readSort_119 rfl rfl rfl ?_
      refine aw_getR (n := 123) (j := 9) (r := 97) hG.1 fl_RX12_45 (sF_88 hS) rfl dX12_readSort_120 rfl ?_
      refine aw_iload_n (n := 124) (i := 2) dX12_readSort_123 rfl rfl rfl ?_
      refine aw_aload_n (n := 125) (i := 0) dX12_readSort_124 rfl rfl rfl ?_
      refine aw_bipush (n := 127) (v := 9) dX12_readSort_125 rfl (by decide) ?_
      refine aw_cVi (M := M_X12_readSort) (n := 130) (As := [.int 9]) (rest := [.int v2_6, .ref 97]) hG.1 lk_RX12_245 rfl rfl (sF_88 hS) (c_X12_readSigned hG hS (h := Ok.bi h)) (by decide) (Nat.le_of_ble_eq_true rfl) (by decide) (by decide) dX12_readSort_127 rfl (fun y_31 D_32 h => ?_)
      obtain ⟨g_33, h⟩ := Ok.gd h
      obtain ⟨D_34, e_D_34, h⟩ := Ok.let_ h
      refine aw_iastore (n := 131) hG.1 (sF_97 hS) (aIn_in g_33) e_D_34 dX12_readSort_130 rfl ?_
      refine aw_aload_n (n := 132) (i := 0) dX12_readSort_131 rfl rfl rfl ?_
      refine aw_getR (n := 135) (j := 3) (r := 91) hG.1 fl_RX12_27 (sF_88 hS) rfl dX12_readSort_132 rfl ?_
      refine aw_bipush (n := 137) (v := 18) dX12_readSort_135 rfl (by decide) ?_
      refine aw_dup2 (n := 138) dX12_readSort_137 rfl rfl rfl ?_
      obtain ⟨g_35, h⟩ := Ok.gd h
      refine aw_iaload (n := 139) hG.1 (sF_91 hS) (aIn_in g_35) dX12_readSort_138 rfl ?_
      refine aw_iconst (n := 140) (v := 1) dX12_readSort_139 rfl (by decide) ?_
      refine aw_iadd (n := 141) dX12_readSort_140 rfl ?_
      obtain ⟨g_36, h⟩ := Ok.gd h
      obtain ⟨D_37, e_D_37, h⟩ := Ok.let_ h
      refine aw_iastore (n := 142) hG.1 (sF_91 hS) (aIn_in g_36) e_D_37 dX12_readSort_141 rfl ?_
      exact aw_vret rfl (by decide) (by decide) dX12_readSort_142 ⟨rfl, rfl, (Ok.dn h :)⟩
    · replace h := Ok.iffn h c
      exact aw_vret rfl (by decide) (by decide) dX12_readSort_25 ⟨rfl, rfl, (Ok.dn h :)⟩
  refine aw_aload_n (n := 1) (i := 0) dX12_readSort_0 rfl rfl rfl ?_
  refine aw_ldcS (M := M_X12_readSort) (n := 3) (sk := 10000 + 7) (gS_RX12_240 hG) dX12_readSort_1 rfl ?_
  refine aw_cVi (M := M_X12_readSort) (n := 6) (As := [.ref (10000 + 7)]) (rest := []) hG.1 lk_RX12_217 rfl rfl (sF_88 hS) (c_X12_is hG hS (h := Ok.bi h) (by decide)) (by decide) (Nat.le_of_ble_eq_true rfl) (by decide) (by decide) dX12_readSort_3 rfl (fun y_1 D_2 h => ?_)
  refine aw_if_eq (n := 9) (tgt := 13) dX12_readSort_6 rfl (by decide) (fun c => ?_) (fun c => ?_)
  · replace h := Ok.ift h c
    refine aw_iconst (n := 14) (v := 0) dX12_readSort_13 rfl (by decide) ?_
    exact aw_le' (hJ_14 0 D_2 h) ⟨rfl, trivial⟩
  · replace h := Ok.iff h c
    refine aw_iconst (n := 10) (v := 1) dX12_readSort_9 rfl (by decide) ?_
    refine aw_goto (tgt := 14) dX12_readSort_10 (by decide) ?_
    exact aw_le' (hJ_14 1 D_2 h) ⟨rfl, trivial⟩
theorem dX12_hasPlant_0 : decode cX12_hasPlant 0 = .ok (.iload_n 1, 1) := by decide +kernel
theorem dX12_hasPlant_1 : decode cX12_hasPlant 1 = .ok (.istore 4, 2) := by decide +kernel
theorem dX12_hasPlant_3 : decode cX12_hasPlant 3 = .ok (.iload 4, 2) := by decide +kernel
theorem dX12_hasPlant_5 : decode cX12_hasPlant 5 = .ok (.iload_n 1, 1) := by decide +kernel
theorem dX12_hasPlant_6 : decode cX12_hasPlant 6 = .ok (.iload_n 2, 1) := by decide +kernel
theorem dX12_hasPlant_7 : decode cX12_hasPlant 7 = .ok (.iadd, 1) := by decide +kernel
theorem dX12_hasPlant_8 : decode cX12_hasPlant 8 = .ok (.if_icmp .ge 22, 3) := by decide +kernel
theorem dX12_hasPlant_11 : decode cX12_hasPlant 11 = .ok (.aload_n 0, 1) := by decide +kernel
theorem dX12_hasPlant_12 : decode cX12_hasPlant 12 = .ok (.getfield 54, 3) := by decide +kernel
theorem dX12_hasPlant_15 : decode cX12_hasPlant 15 = .ok (.iload 4, 2) := by decide +kernel
theorem dX12_hasPlant_17 : decode cX12_hasPlant 17 = .ok (.iaload, 1) := by decide +kernel
theorem dX12_hasPlant_18 : decode cX12_hasPlant 18 = .ok (.iload_n 3, 1) := by decide +kernel
theorem dX12_hasPlant_19 : decode cX12_hasPlant 19 = .ok (.if_icmp .ne 5, 3) := by decide +kernel
theorem dX12_hasPlant_22 : decode cX12_hasPlant 22 = .ok (.iconst 1, 1) := by decide +kernel
theorem dX12_hasPlant_23 : decode cX12_hasPlant 23 = .ok (.ireturn, 1) := by decide +kernel
theorem dX12_hasPlant_24 : decode cX12_hasPlant 24 = .ok (.iinc 4 1, 3) := by decide +kernel
theorem dX12_hasPlant_27 : decode cX12_hasPlant 27 = .ok (.goto (-24), 3) := by decide +kernel
theorem dX12_hasPlant_30 : decode cX12_hasPlant 30 = .ok (.iconst 0, 1) := by decide +kernel
theorem dX12_hasPlant_31 : decode cX12_hasPlant 31 = .ok (.ireturn, 1) := by decide +kernel
def J_X12_hasPlant_22 (D : aD) : Option (Int32 × aD) :=
  some (1, D)
def J_X12_hasPlant_30 (D : aD) : Option (Int32 × aD) :=
  some (0, D)
def B_X12_hasPlant_3 (v1 : Int32) (v2 : Int32) (v3 : Int32) (v4 : Int32) (D : aD) : Option ((Int32 × aD) ⊕ ((aD) ⊕ (aD))) :=
  if v1 + v2 ≤ v4 then (some (.inr (.inr (D)))) else (aGd (aIn v4 26) (if gI D 100 v4.toNatClampNeg ≠ v3 then (aLet (v4 + 1) (fun v4_2 => some (.inl (v4_2, D)))) else (some (.inr (.inl (D))))))
def J_X12_hasPlant_3 (v1 : Int32) (v2 : Int32) (v3 : Int32) (v4 : Int32) (D : aD) : Option (Int32 × aD) :=
  (aLp (fun s => B_X12_hasPlant_3 v1 v2 v3 s.1 s.2) (v4, D)).bind (Sum.elim (fun r => J_X12_hasPlant_22 r) ((fun r => J_X12_hasPlant_30 r)))
def f_X12_hasPlant (v1 : Int32) (v2 : Int32) (v3 : Int32) (D : aD) : Option (Int32 × aD) :=
  J_X12_hasPlant_3 v1 v2 v3 v1 D
set_option maxRecDepth 100000 in
set_option maxHeartbeats 800000 in
theorem c_X12_hasPlant {G : aG} (hG : gOK G) {shp : List aSh} (hS : aShp shp) {fr : Option Nat} {v1 : Int32} {v2 : Int32} {v3 : Int32} {D : aD} {K : Int32 → aD → Prop} (h : Ok2 (f_X12_hasPlant v1 v2 v3 D) K) : AC G (aRm 1 0 0) M_X12_hasPlant [.ref 88, .int v1, .int v2, .int v3] fr shp D (aQi shp K) := by
  replace h := Ok2.ok h
  unfold f_X12_hasPlant at h
  refine AC.of (al := [some (.ref 88), some (.int v1), some (.int v2), some (.int v3), none]) (r := 1) (by decide) (Nat.le_of_ble_eq_true rfl) rfl ?_
  have hJ_22 : ∀ (D : aD), Ok (J_X12_hasPlant_22 D) (fun r => K r.1 r.2) → AW G (aRm 1 0 0) M_X12_hasPlant fr 0 0 22 [none, none, none, none, none] [] shp D (aQi shp K) := by
    intro D h
    unfold J_X12_hasPlant_22 at h
    refine aw_iconst (n := 23) (v := 1) dX12_hasPlant_22 rfl (by decide) ?_
    exact aw_zret rfl (by decide) (by decide) (by decide) dX12_hasPlant_23 ⟨_, rfl, rfl, (Ok.dn h :)⟩
  have hJ_30 : ∀ (D : aD), Ok (J_X12_hasPlant_30 D) (fun r => K r.1 r.2) → AW G (aRm 1 0 0) M_X12_hasPlant fr 0 0 30 [none, none, none, none, none] [] shp D (aQi shp K) := by
    intro D h
    unfold J_X12_hasPlant_30 at h
    refine aw_iconst (n := 31) (v := 0) dX12_hasPlant_30 rfl (by decide) ?_
    exact aw_zret rfl (by decide) (by decide) (by decide) dX12_hasPlant_31 ⟨_, rfl, rfl, (Ok.dn h :)⟩
  have hJ_3 : ∀ (v1 : Int32) (v2 : Int32) (v3 : Int32) (v4 : Int32) (D : aD), Ok (J_X12_hasPlant_3 v1 v2 v3 v4 D) (fun r => K r.1 r.2) → AW G (aRm 1 0 0) M_X12_hasPlant fr 0 0 3 [some (.ref 88), some (.int v1), some (.int v2), some (.int v3), some (.int v4)] [] shp D (aQi shp K) := by
    intro v1 v2 v3 v4 D h
    unfold J_X12_hasPlant_3 at h
    refine Ok.lp (P := fun s => AW G (aRm 1 0 0) M_X12_hasPlant fr 0 0 3 [some (.ref 88), some (.int v1), some (.int v2), some (.int v3), some (.int (s.1))] [] shp s.2 (aQi shp K)) (fun s Kb3 hL3 hR3 h => ?_) (v4, D) (Ok.bind h)
    obtain ⟨v4, D⟩ := s
    replace h : Ok (B_X12_hasPlant_3 v1 v2 v3 v4 D) Kb3 := h
    unfold B_X12_hasPlant_3 at h
    refine aw_iload (n := 5) (i := 4) dX12_hasPlant_3 rfl rfl ?_
    refine aw_iload_n (n := 6) (i := 1) dX12_hasPlant_5 rfl rfl rfl ?_
    refine aw_iload_n (n := 7) (i := 2) dX12_hasPlant_6 rfl rfl rfl ?_
    refine aw_iadd (n := 8) dX12_hasPlant_7 rfl ?_
    refine aw_icmp_ge (n := 11) (tgt := 30) dX12_hasPlant_8 rfl (by decide) (fun c => ?_) (fun c => ?_)
    · replace h := Ok.ift h c
      exact aw_le' (hJ_30 D (Ok.er (hR3 (.inr (D)) (Ok.dn h :)) :)) trivial
    · replace h := Ok.iff h c
      refine aw_aload_n (n := 12) (i := 0) dX12_hasPlant_11 rfl rfl rfl ?_
      refine aw_getR (n := 15) (j := 12) (r := 100) hG.1 fl_RX12_54 (sF_88 hS) rfl dX12_hasPlant_12 rfl ?_
      refine aw_iload (n := 17) (i := 4) dX12_hasPlant_15 rfl rfl ?_
      obtain ⟨g_1, h⟩ := Ok.gd h
      refine aw_iaload (n := 18) hG.1 (sF_100 hS) (aIn_in g_1) dX12_hasPlant_17 rfl ?_
      refine aw_iload_n (n := 19) (i := 3) dX12_hasPlant_18 rfl rfl rfl ?_
      refine aw_icmp_ne (n := 22) (tgt := 24) dX12_hasPlant_19 rfl (by decide) (fun c => ?_) (fun c => ?_)
      · replace h := Ok.ift h c
        obtain ⟨v4_2, e_v4_2, h⟩ := Ok.let_ h
        refine aw_iinc (n := 27) (al' := [some (.ref 88), some (.int v1), some (.int v2), some (.int v3), some (.int v4_2)]) dX12_hasPlant_24 rfl rfl e_v4_2 (by decide) rfl ?_
        refine aw_goto (tgt := 3) dX12_hasPlant_27 (by decide) ?_
        exact aw_le' (hL3 (v4_2, D) (Ok.dn h :)) ⟨rfl, ⟨rfl, ⟨rfl, ⟨rfl, ⟨rfl, trivial⟩⟩⟩⟩⟩
      · replace h := Ok.iffn h c
        exact aw_le' (hJ_22 D (Ok.el (hR3 (.inl (D)) (Ok.dn h :)) :)) trivial
  refine aw_iload_n (n := 1) (i := 1) dX12_hasPlant_0 rfl rfl rfl ?_
  refine aw_istore (n := 3) (i := 4) (al' := [some (.ref 88), some (.int v1), some (.int v2), some (.int v3), some (.int v1)]) dX12_hasPlant_1 rfl rfl (by decide) rfl ?_
  exact aw_le' (hJ_3 v1 v2 v3 v1 D h) ⟨rfl, ⟨rfl, ⟨rfl, ⟨rfl, ⟨rfl, trivial⟩⟩⟩⟩⟩
theorem dX12_passes_0 : decode cX12_passes 0 = .ok (.aload_n 0, 1) := by decide +kernel
theorem dX12_passes_1 : decode cX12_passes 1 = .ok (.aload_n 1, 1) := by decide +kernel
theorem dX12_passes_2 : decode cX12_passes 2 = .ok (.invokevirtual 217, 3) := by decide +kernel
theorem dX12_passes_5 : decode cX12_passes 5 = .ok (.istore_n 2, 1) := by decide +kernel
theorem dX12_passes_6 : decode cX12_passes 6 = .ok (.iload_n 2, 1) := by decide +kernel
theorem dX12_passes_7 : decode cX12_passes 7 = .ok (.ifCond .eq 7, 3) := by decide +kernel
theorem dX12_passes_10 : decode cX12_passes 10 = .ok (.aload_n 0, 1) := by decide +kernel
theorem dX12_passes_11 : decode cX12_passes 11 = .ok (.invokevirtual 221, 3) := by decide +kernel
theorem dX12_passes_14 : decode cX12_passes 14 = .ok (.iload_n 2, 1) := by decide +kernel
theorem dX12_passes_15 : decode cX12_passes 15 = .ok (.ireturn, 1) := by decide +kernel
def f_X12_passes (w1 : Nat) (D : aD) : Option (Int32 × aD) :=
  aBi (f_X12_is w1 D) (fun y_1 D_2 => if y_1 = 0 then (aGd (aZ y_1) (some (y_1, D_2))) else ((f_X12_stepOn D_2).bind (fun D_4 => aGd (aZ y_1) (some (y_1, D_4)))))
set_option maxRecDepth 100000 in
set_option maxHeartbeats 800000 in
theorem c_X12_passes {G : aG} (hG : gOK G) {shp : List aSh} (hS : aShp shp) {fr : Option Nat} {w1 : Nat} {D : aD} {K : Int32 → aD → Prop} (h : Ok2 (f_X12_passes w1 D) K) (hw1 : w1 < 13) : AC G (aRm 9 0 0) M_X12_passes [.ref 88, .ref (10000 + w1)] fr shp D (aQi shp K) := by
  replace h := Ok2.ok h
  unfold f_X12_passes at h
  refine AC.of (al := [some (.ref 88), some (.ref (10000 + w1)), none]) (r := 1) (by decide) (Nat.le_of_ble_eq_true rfl) rfl ?_
  refine aw_aload_n (n := 1) (i := 0) dX12_passes_0 rfl rfl rfl ?_
  refine aw_aload_n (n := 2) (i := 1) dX12_passes_1 rfl rfl rfl ?_
  refine aw_cVi (M := M_X12_passes) (n := 5) (As := [.ref (10000 + w1)]) (rest := []) hG.1 lk_RX12_217 rfl rfl (sF_88 hS) (c_X12_is hG hS (h := Ok.bi h) hw1) (by decide) (Nat.le_of_ble_eq_true rfl) (by decide) (by decide) dX12_passes_2 rfl (fun y_1 D_2 h => ?_)
  refine aw_istore_n (n := 6) (i := 2) (al' := [some (.ref 88), some (.ref (10000 + w1)), some (.int y_1)]) dX12_passes_5 rfl rfl rfl (by decide) rfl ?_
  refine aw_iload_n (n := 7) (i := 2) dX12_passes_6 rfl rfl rfl ?_
  refine aw_if_eq (n := 10) (tgt := 14) dX12_passes_7 rfl (by decide) (fun c => ?_) (fun c => ?_)
  · replace h := Ok.ift h c
    refine aw_iload_n (n := 15) (i := 2) dX12_passes_14 rfl rfl rfl ?_
    obtain ⟨g_3, h⟩ := Ok.gd h
    exact aw_zret rfl (aZ_or g_3) (by decide) (by decide) dX12_passes_15 ⟨_, rfl, rfl, (Ok.dn h :)⟩
  · replace h := Ok.iff h c
    refine aw_aload_n (n := 11) (i := 0) dX12_passes_10 rfl rfl rfl ?_
    refine aw_cVv (M := M_X12_passes) (n := 14) (As := []) (rest := []) hG.1 lk_RX12_221 rfl rfl (sF_88 hS) (c_X12_stepOn hG hS (h := Ok.bind h)) (by decide) (Nat.le_of_ble_eq_true rfl) (by decide) (by decide) dX12_passes_11 rfl (fun D_4 h => ?_)
    refine aw_iload_n (n := 15) (i := 2) dX12_passes_14 rfl rfl rfl ?_
    obtain ⟨g_5, h⟩ := Ok.gd h
    exact aw_zret rfl (aZ_or g_5) (by decide) (by decide) dX12_passes_15 ⟨_, rfl, rfl, (Ok.dn h :)⟩
theorem dX12_readPlant_0 : decode cX12_readPlant 0 = .ok (.aload_n 0, 1) := by decide +kernel
theorem dX12_readPlant_1 : decode cX12_readPlant 1 = .ok (.iconst 4, 1) := by decide +kernel
theorem dX12_readPlant_2 : decode cX12_readPlant 2 = .ok (.bipush 12, 2) := by decide +kernel
theorem dX12_readPlant_4 : decode cX12_readPlant 4 = .ok (.invokevirtual 241, 3) := by decide +kernel
theorem dX12_readPlant_7 : decode cX12_readPlant 7 = .ok (.ifCond .ne 4, 3) := by decide +kernel
theorem dX12_readPlant_10 : decode cX12_readPlant 10 = .ok (.return_, 1) := by decide +kernel
theorem dX12_readPlant_11 : decode cX12_readPlant 11 = .ok (.bipush 13, 2) := by decide +kernel
theorem dX12_readPlant_13 : decode cX12_readPlant 13 = .ok (.aload_n 0, 1) := by decide +kernel
theorem dX12_readPlant_14 : decode cX12_readPlant 14 = .ok (.getfield 27, 3) := by decide +kernel
theorem dX12_readPlant_17 : decode cX12_readPlant 17 = .ok (.bipush 20, 2) := by decide +kernel
theorem dX12_readPlant_19 : decode cX12_readPlant 19 = .ok (.iaload, 1) := by decide +kernel
theorem dX12_readPlant_20 : decode cX12_readPlant 20 = .ok (.iadd, 1) := by decide +kernel
theorem dX12_readPlant_21 : decode cX12_readPlant 21 = .ok (.istore_n 1, 1) := by decide +kernel
theorem dX12_readPlant_22 : decode cX12_readPlant 22 = .ok (.aload_n 0, 1) := by decide +kernel
theorem dX12_readPlant_23 : decode cX12_readPlant 23 = .ok (.getfield 51, 3) := by decide +kernel
theorem dX12_readPlant_26 : decode cX12_readPlant 26 = .ok (.iload_n 1, 1) := by decide +kernel
theorem dX12_readPlant_27 : decode cX12_readPlant 27 = .ok (.aload_n 0, 1) := by decide +kernel
theorem dX12_readPlant_28 : decode cX12_readPlant 28 = .ok (.iconst 2, 1) := by decide +kernel
theorem dX12_readPlant_29 : decode cX12_readPlant 29 = .ok (.invokevirtual 248, 3) := by decide +kernel
theorem dX12_readPlant_32 : decode cX12_readPlant 32 = .ok (.iastore, 1) := by decide +kernel
theorem dX12_readPlant_33 : decode cX12_readPlant 33 = .ok (.aload_n 0, 1) := by decide +kernel
theorem dX12_readPlant_34 : decode cX12_readPlant 34 = .ok (.iconst 0, 1) := by decide +kernel
theorem dX12_readPlant_35 : decode cX12_readPlant 35 = .ok (.aload_n 0, 1) := by decide +kernel
theorem dX12_readPlant_36 : decode cX12_readPlant 36 = .ok (.getfield 27, 3) := by decide +kernel
theorem dX12_readPlant_39 : decode cX12_readPlant 39 = .ok (.bipush 16, 2) := by decide +kernel
theorem dX12_readPlant_41 : decode cX12_readPlant 41 = .ok (.iaload, 1) := by decide +kernel
theorem dX12_readPlant_42 : decode cX12_readPlant 42 = .ok (.iconst 1, 1) := by decide +kernel
theorem dX12_readPlant_43 : decode cX12_readPlant 43 = .ok (.isub, 1) := by decide +kernel
theorem dX12_readPlant_44 : decode cX12_readPlant 44 = .ok (.invokevirtual 234, 3) := by decide +kernel
theorem dX12_readPlant_47 : decode cX12_readPlant 47 = .ok (.istore_n 2, 1) := by decide +kernel
theorem dX12_readPlant_48 : decode cX12_readPlant 48 = .ok (.aload_n 0, 1) := by decide +kernel
theorem dX12_readPlant_49 : decode cX12_readPlant 49 = .ok (.getfield 54, 3) := by decide +kernel
theorem dX12_readPlant_52 : decode cX12_readPlant 52 = .ok (.iload_n 1, 1) := by decide +kernel
theorem dX12_readPlant_53 : decode cX12_readPlant 53 = .ok (.aload_n 0, 1) := by decide +kernel
theorem dX12_readPlant_54 : decode cX12_readPlant 54 = .ok (.getfield 27, 3) := by decide +kernel
theorem dX12_readPlant_57 : decode cX12_readPlant 57 = .ok (.bipush 16, 2) := by decide +kernel
theorem dX12_readPlant_59 : decode cX12_readPlant 59 = .ok (.iaload, 1) := by decide +kernel
theorem dX12_readPlant_60 : decode cX12_readPlant 60 = .ok (.aload_n 0, 1) := by decide +kernel
theorem dX12_readPlant_61 : decode cX12_readPlant 61 = .ok (.iconst 0, 1) := by decide +kernel
theorem dX12_readPlant_62 : decode cX12_readPlant 62 = .ok (.aload_n 0, 1) := by decide +kernel
theorem dX12_readPlant_63 : decode cX12_readPlant 63 = .ok (.getfield 27, 3) := by decide +kernel
theorem dX12_readPlant_66 : decode cX12_readPlant 66 = .ok (.bipush 17, 2) := by decide +kernel
theorem dX12_readPlant_68 : decode cX12_readPlant 68 = .ok (.iaload, 1) := by decide +kernel
theorem dX12_readPlant_69 : decode cX12_readPlant 69 = .ok (.iconst 1, 1) := by decide +kernel
theorem dX12_readPlant_70 : decode cX12_readPlant 70 = .ok (.isub, 1) := by decide +kernel
theorem dX12_readPlant_71 : decode cX12_readPlant 71 = .ok (.invokevirtual 228, 3) := by decide +kernel
theorem dX12_readPlant_74 : decode cX12_readPlant 74 = .ok (.imul, 1) := by decide +kernel
theorem dX12_readPlant_75 : decode cX12_readPlant 75 = .ok (.iload_n 2, 1) := by decide +kernel
theorem dX12_readPlant_76 : decode cX12_readPlant 76 = .ok (.iadd, 1) := by decide +kernel
theorem dX12_readPlant_77 : decode cX12_readPlant 77 = .ok (.iastore, 1) := by decide +kernel
theorem dX12_readPlant_78 : decode cX12_readPlant 78 = .ok (.aload_n 0, 1) := by decide +kernel
theorem dX12_readPlant_79 : decode cX12_readPlant 79 = .ok (.getfield 203, 3) := by decide +kernel
theorem dX12_readPlant_82 : decode cX12_readPlant 82 = .ok (.ifCond .ne 30, 3) := by decide +kernel
theorem dX12_readPlant_85 : decode cX12_readPlant 85 = .ok (.aload_n 0, 1) := by decide +kernel
theorem dX12_readPlant_86 : decode cX12_readPlant 86 = .ok (.bipush 13, 2) := by decide +kernel
theorem dX12_readPlant_88 : decode cX12_readPlant 88 = .ok (.aload_n 0, 1) := by decide +kernel
theorem dX12_readPlant_89 : decode cX12_readPlant 89 = .ok (.getfield 27, 3) := by decide +kernel
theorem dX12_readPlant_92 : decode cX12_readPlant 92 = .ok (.bipush 20, 2) := by decide +kernel
theorem dX12_readPlant_94 : decode cX12_readPlant 94 = .ok (.iaload, 1) := by decide +kernel
theorem dX12_readPlant_95 : decode cX12_readPlant 95 = .ok (.aload_n 0, 1) := by decide +kernel
theorem dX12_readPlant_96 : decode cX12_readPlant 96 = .ok (.getfield 54, 3) := by decide +kernel
theorem dX12_readPlant_99 : decode cX12_readPlant 99 = .ok (.iload_n 1, 1) := by decide +kernel
theorem dX12_readPlant_100 : decode cX12_readPlant 100 = .ok (.iaload, 1) := by decide +kernel
theorem dX12_readPlant_101 : decode cX12_readPlant 101 = .ok (.invokevirtual 251, 3) := by decide +kernel
theorem dX12_readPlant_104 : decode cX12_readPlant 104 = .ok (.ifCond .eq 8, 3) := by decide +kernel
theorem dX12_readPlant_107 : decode cX12_readPlant 107 = .ok (.aload_n 0, 1) := by decide +kernel
theorem dX12_readPlant_108 : decode cX12_readPlant 108 = .ok (.iconst 5, 1) := by decide +kernel
theorem dX12_readPlant_109 : decode cX12_readPlant 109 = .ok (.invokevirtual 224, 3) := by decide +kernel
theorem dX12_readPlant_112 : decode cX12_readPlant 112 = .ok (.aload_n 0, 1) := by decide +kernel
theorem dX12_readPlant_113 : decode cX12_readPlant 113 = .ok (.getfield 203, 3) := by decide +kernel
theorem dX12_readPlant_116 : decode cX12_readPlant 116 = .ok (.ifCond .ne 7, 3) := by decide +kernel
theorem dX12_readPlant_119 : decode cX12_readPlant 119 = .ok (.aload_n 0, 1) := by decide +kernel
theorem dX12_readPlant_120 : decode cX12_readPlant 120 = .ok (.invokevirtual 221, 3) := by decide +kernel
theorem dX12_readPlant_123 : decode cX12_readPlant 123 = .ok (.aload_n 0, 1) := by decide +kernel
theorem dX12_readPlant_124 : decode cX12_readPlant 124 = .ok (.getfield 57, 3) := by decide +kernel
theorem dX12_readPlant_127 : decode cX12_readPlant 127 = .ok (.iload_n 1, 1) := by decide +kernel
theorem dX12_readPlant_128 : decode cX12_readPlant 128 = .ok (.aload_n 0, 1) := by decide +kernel
theorem dX12_readPlant_129 : decode cX12_readPlant 129 = .ok (.ldc 254, 2) := by decide +kernel
theorem dX12_readPlant_131 : decode cX12_readPlant 131 = .ok (.invokevirtual 256, 3) := by decide +kernel
theorem dX12_readPlant_134 : decode cX12_readPlant 134 = .ok (.ifCond .eq 11, 3) := by decide +kernel
theorem dX12_readPlant_137 : decode cX12_readPlant 137 = .ok (.aload_n 0, 1) := by decide +kernel
theorem dX12_readPlant_138 : decode cX12_readPlant 138 = .ok (.iconst 3, 1) := by decide +kernel
theorem dX12_readPlant_139 : decode cX12_readPlant 139 = .ok (.invokevirtual 248, 3) := by decide +kernel
theorem dX12_readPlant_142 : decode cX12_readPlant 142 = .ok (.goto 4, 3) := by decide +kernel
theorem dX12_readPlant_145 : decode cX12_readPlant 145 = .ok (.iconst (-1), 1) := by decide +kernel
theorem dX12_readPlant_146 : decode cX12_readPlant 146 = .ok (.iastore, 1) := by decide +kernel
theorem dX12_readPlant_147 : decode cX12_readPlant 147 = .ok (.aload_n 0, 1) := by decide +kernel
theorem dX12_readPlant_148 : decode cX12_readPlant 148 = .ok (.getfield 27, 3) := by decide +kernel
theorem dX12_readPlant_151 : decode cX12_readPlant 151 = .ok (.bipush 20, 2) := by decide +kernel
theorem dX12_readPlant_153 : decode cX12_readPlant 153 = .ok (.dup2, 1) := by decide +kernel
theorem dX12_readPlant_154 : decode cX12_readPlant 154 = .ok (.iaload, 1) := by decide +kernel
theorem dX12_readPlant_155 : decode cX12_readPlant 155 = .ok (.iconst 1, 1) := by decide +kernel
theorem dX12_readPlant_156 : decode cX12_readPlant 156 = .ok (.iadd, 1) := by decide +kernel
theorem dX12_readPlant_157 : decode cX12_readPlant 157 = .ok (.iastore, 1) := by decide +kernel
theorem dX12_readPlant_158 : decode cX12_readPlant 158 = .ok (.return_, 1) := by decide +kernel
def J_X12_readPlant_146 (t0 : Int32) (t1 : Int32) (D : aD) : Option (aD) :=
  aGd (aIn t1 26) (aLet (pI D 101 t1.toNatClampNeg t0) (fun D_21 => aGd (aIn 20 32) (aGd (aIn 20 32) (aLet (pI D_21 91 (20 : Int32).toNatClampNeg ((gI D_21 91 (20 : Int32).toNatClampNeg) + 1)) (fun D_24 => some D_24)))))
def J_X12_readPlant_123 (v1 : Int32) (D : aD) : Option (aD) :=
  aBi (f_X12_passes 10 D) (fun y_18 D_19 => if y_18 = 0 then (J_X12_readPlant_146 (-1) v1 D_19) else (aBi (f_X12_readOne 3 D_19) (fun y_25 D_26 => J_X12_readPlant_146 y_25 v1 D_26)))
def J_X12_readPlant_112 (v1 : Int32) (D : aD) : Option (aD) :=
  if gI D 88 25 ≠ 0 then (J_X12_readPlant_123 v1 D) else ((f_X12_stepOn D).bind (fun D_27 => J_X12_readPlant_123 v1 D_27))
def f_X12_readPlant (D : aD) : Option (aD) :=
  aBi (f_X12_begin 4 12 D) (fun y_1 D_2 => if y_1 ≠ 0 then (aGd (aIn 20 32) (aLet (13 + (gI D_2 91 (20 : Int32).toNatClampNeg)) (fun v1_4 => aBi (f_X12_readOne 2 D_2) (fun y_5 D_6 => aGd (aIn v1_4 26) (aLet (pI D_6 99 v1_4.toNatClampNeg y_5) (fun D_8 => aGd (aIn 16 32) (aBi (f_X12_readNumber 0 ((gI D_8 91 (16 : Int32).toNatClampNeg) - 1) D_8) (fun y_10 D_11 => aGd (aIn 16 32) (aGd (aIn 17 32) (aBi (f_X12_numberNow 0 ((gI D_11 91 (17 : Int32).toNatClampNeg) - 1) D_11) (fun y_14 D_15 => aGd (aIn v1_4 26) (aLet (pI D_15 100 v1_4.toNatClampNeg (((gI D_11 91 (16 : Int32).toNatClampNeg) * y_14) + y_10)) (fun D_17 => if gI D_17 88 25 ≠ 0 then (J_X12_readPlant_112 v1_4 D_17) else (aGd (aIn 20 32) (aGd (aIn v1_4 26) (aBi (f_X12_hasPlant 13 (gI D_17 91 (20 : Int32).toNatClampNeg) (gI D_17 100 v1_4.toNatClampNeg) D_17) (fun y_30 D_31 => if y_30 = 0 then (J_X12_readPlant_112 v1_4 D_31) else ((f_X12_wrong 5 D_31).bind (fun D_32 => J_X12_readPlant_112 v1_4 D_32))))))))))))))))))) else (some D_2))
set_option maxRecDepth 100000 in
set_option maxHeartbeats 800000 in
theorem c_X12_readPlant {G : aG} (hG : gOK G) {shp : List aSh} (hS : aShp shp) {fr : Option Nat} {D : aD} {K : aD → Prop} (h : Ok (f_X12_readPlant D) K) : AC G (aRm 10 0 0) M_X12_readPlant [.ref 88] fr shp D (aQv shp K) := by
  unfold f_X12_readPlant at h
  refine AC.of (al := [some (.ref 88), none, none]) (r := 2) (by decide) (Nat.le_of_ble_eq_true rfl) rfl ?_
  have hJ_146 : ∀ (t0 : Int32) (t1 : Int32) (D : aD), Ok (J_X12_readPlant_146 t0 t1 D) K → AW G (aRm 10 0 0) M_X12_readPlant fr 0 0 146 [some (.ref 88), none, none] [.int t0, .int t1, .ref 101] shp D (aQv shp K) := by
    intro t0 t1 D h
    unfold J_X12_readPlant_146 at h
    obtain ⟨g_20, h⟩ := Ok.gd h
    obtain ⟨D_21, e_D_21, h⟩ := Ok.let_ h
    refine aw_iastore (n := 147) hG.1 (sF_101 hS) (aIn_in g_20) e_D_21 dX12_readPlant_146 rfl ?_
    refine aw_aload_n (n := 148) (i := 0) dX12_readPlant_147 rfl rfl rfl ?_
    refine aw_getR (n := 151) (j := 3) (r := 91) hG.1 fl_RX12_27 (sF_88 hS) rfl dX12_readPlant_148 rfl ?_
    refine aw_bipush (n := 153) (v := 20) dX12_readPlant_151 rfl (by decide) ?_
    refine aw_dup2 (n := 154) dX12_readPlant_153 rfl rfl rfl ?_
    obtain ⟨g_22, h⟩ := Ok.gd h
    refine aw_iaload (n := 155) hG.1 (sF_91 hS) (aIn_in g_22) dX12_readPlant_154 rfl ?_
    refine aw_iconst (n := 156) (v := 1) dX12_readPlant_155 rfl (by decide) ?_
    refine aw_iadd (n := 157) dX12_readPlant_156 rfl ?_
    obtain ⟨g_23, h⟩ := Ok.gd h
    obtain ⟨D_24, e_D_24, h⟩ := Ok.let_ h
    refine aw_iastore (n := 158) hG.1 (sF_91 hS) (aIn_in g_23) e_D_24 dX12_readPlant_157 rfl ?_
    exact aw_vret rfl (by decide) (by decide) dX12_readPlant_158 ⟨rfl, rfl, (Ok.dn h :)⟩
  have hJ_123 : ∀ (v1 : Int32) (D : aD), Ok (J_X12_readPlant_123 v1 D) K → AW G (aRm 10 0 0) M_X12_readPlant fr 0 0 123 [some (.ref 88), some (.int v1), none] [] shp D (aQv shp K) := by
    intro v1 D h
    unfold J_X12_readPlant_123 at h
    refine aw_aload_n (n := 124) (i := 0) dX12_readPlant_123 rfl rfl rfl ?_
    refine aw_getR (n := 127) (j := 13) (r := 101) hG.1 fl_RX12_57 (sF_88 hS) rfl dX12_readPlant_124 rfl ?_
    refine aw_iload_n (n := 128) (i := 1) dX12_readPlant_127 rfl rfl rfl ?_
    refine aw_aload_n (n := 129) (i := 0) dX12_readPlant_128 rfl rfl rfl ?_
    refine aw_ldcS (M := M_X12_readPlant) (n := 131) (sk := 10000 + 10) (gS_RX12_254 hG) dX12_readPlant_129 rfl ?_
    refine aw_cVi (M := M_X12_readPlant) (n := 134) (As := [.ref (10000 + 10)]) (rest := [.int v1, .ref 101]) hG.1 lk_RX12_256 rfl rfl (sF_88 hS) (c_X12_passes hG hS (h := Ok.bi h) (by decide)) (by decide) (Nat.le_of_ble_eq_true rfl) (by decide) (by decide) dX12_readPlant_131 rfl (fun y_18 D_19 h => ?_)
    refine aw_if_eq (n := 137) (tgt := 145) dX12_readPlant_134 rfl (by decide) (fun c => ?_) (fun c => ?_)
    · replace h := Ok.ift h c
      refine aw_iconst (n := 146) (v := (-1)) dX12_readPlant_145 rfl (by decide) ?_
      exact aw_le' (hJ_146 (-1) v1 D_19 h) ⟨rfl, trivial⟩
    · replace h := Ok.iff h c
      refine aw_aload_n (n := 138) (i := 0) dX12_readPlant_137 rfl rfl rfl ?_
      refine aw_iconst (n := 139) (v := 3) dX12_readPlant_138 rfl (by decide) ?_
      refine aw_cVi (M := M_X12_readPlant) (n := 142) (As := [.int 3]) (rest := [.int v1, .ref 101]) hG.1 lk_RX12_248 rfl rfl (sF_88 hS) (c_X12_readOne hG hS (h := Ok.bi h)) (by decide) (Nat.le_of_ble_eq_true rfl) (by decide) (by decide) dX12_readPlant_139 rfl (fun y_25 D_26 h => ?_)
      refine aw_goto (tgt := 146) dX12_readPlant_142 (by decide) ?_
      exact aw_le' (hJ_146 y_25 v1 D_26 h) ⟨rfl, trivial⟩
  have hJ_112 : ∀ (v1 : Int32) (D : aD), Ok (J_X12_readPlant_112 v1 D) K → AW G (aRm 10 0 0) M_X12_readPlant fr 0 0 112 [some (.ref 88), some (.int v1), none] [] shp D (aQv shp K) := by
    intro v1 D h
    unfold J_X12_readPlant_112 at h
    refine aw_aload_n (n := 113) (i := 0) dX12_readPlant_112 rfl rfl rfl ?_
    refine aw_getI (n := 116) (j := 25) hG.1 fl_RX12_203 (sF_88 hS) rfl dX12_readPlant_113 rfl ?_
    refine aw_if_ne (n := 119) (tgt := 123) dX12_readPlant_116 rfl (by decide) (fun c => ?_) (fun c => ?_)
    · replace h := Ok.ift h c
      exact aw_le' (hJ_123 v1 D h) ⟨rfl, ⟨rfl, trivial⟩⟩
    · replace h := Ok.iffn h c
      refine aw_aload_n (n := 120) (i := 0) dX12_readPlant_119 rfl rfl rfl ?_
      refine aw_cVv (M := M_X12_readPlant) (n := 123) (As := []) (rest := []) hG.1 lk_RX12_221 rfl rfl (sF_88 hS) (c_X12_stepOn hG hS (h := Ok.bind h)) (by decide) (Nat.le_of_ble_eq_true rfl) (by decide) (by decide) dX12_readPlant_120 rfl (fun D_27 h => ?_)
      exact aw_le' (hJ_123 v1 D_27 h) ⟨rfl, ⟨rfl, trivial⟩⟩
  refine aw_aload_n (n := 1) (i := 0) dX12_readPlant_0 rfl rfl rfl ?_
  refine aw_iconst (n := 2) (v := 4) dX12_readPlant_1 rfl (by decide) ?_
  refine aw_bipush (n := 4) (v := 12) dX12_readPlant_2 rfl (by decide) ?_
  refine aw_cVi (M := M_X12_readPlant) (n := 7) (As := [.int 4, .int 12]) (rest := []) hG.1 lk_RX12_241 rfl rfl (sF_88 hS) (c_X12_begin hG hS (h := Ok.bi h)) (by decide) (Nat.le_of_ble_eq_true rfl) (by decide) (by decide) dX12_readPlant_4 rfl (fun y_1 D_2 h => ?_)
  refine aw_if_ne (n := 10) (tgt := 11) dX12_readPlant_7 rfl (by decide) (fun c => ?_) (fun c => ?_)
  · replace h := Ok.ift h c
    refine aw_bipush (n := 13) (v := 13) dX12_readPlant_11 rfl (by decide) ?_
    refine aw_aload_n (n := 14) (i := 0) dX12_readPlant_13 rfl rfl rfl ?_
    refine aw_getR (n := 17) (j := 3) (r := 91) hG.1 fl_RX12_27 (sF_88 hS) rfl dX12_readPlant_14 rfl ?_
    refine aw_bipush (n := 19) (v := 20) dX12_readPlant_17 rfl (by decide) ?_
    obtain ⟨g_3, h⟩ := Ok.gd h
    refine aw_iaload (n := 20) hG.1 (sF_91 hS) (aIn_in g_3) dX12_readPlant_19 rfl ?_
    refine aw_iadd (n := 21) dX12_readPlant_20 rfl ?_
    obtain ⟨v1_4, e_v1_4, h⟩ := Ok.let_ h
    refine aw_istore_n (n := 22) (i := 1) (al' := [some (.ref 88), some (.int v1_4), none]) dX12_readPlant_21 rfl rfl e_v1_4 (by decide) rfl ?_
    refine aw_aload_n (n := 23) (i := 0) dX12_readPlant_22 rfl rfl rfl ?_
    refine aw_getR (n := 26) (j := 11) (r := 99) hG.1 fl_RX12_51 (sF_88 hS) rfl dX12_readPlant_23 rfl ?_
    refine aw_iload_n (n := 27) (i := 1) dX12_readPlant_26 rfl rfl rfl ?_
    refine aw_aload_n (n := 28) (i := 0) dX12_readPlant_27 rfl rfl rfl ?_
    refine aw_iconst (n := 29) (v := 2) dX12_readPlant_28 rfl (by decide) ?_
    refine aw_cVi (M := M_X12_readPlant) (n := 32) (As := [.int 2]) (rest := [.int v1_4, .ref 99]) hG.1 lk_RX12_248 rfl rfl (sF_88 hS) (c_X12_readOne hG hS (h := Ok.bi h)) (by decide) (Nat.le_of_ble_eq_true rfl) (by decide) (by decide) dX12_readPlant_29 rfl (fun y_5 D_6 h => ?_)
    obtain ⟨g_7, h⟩ := Ok.gd h
    obtain ⟨D_8, e_D_8, h⟩ := Ok.let_ h
    refine aw_iastore (n := 33) hG.1 (sF_99 hS) (aIn_in g_7) e_D_8 dX12_readPlant_32 rfl ?_
    refine aw_aload_n (n := 34) (i := 0) dX12_readPlant_33 rfl rfl rfl ?_
    refine aw_iconst (n := 35) (v := 0) dX12_readPlant_34 rfl (by decide) ?_
    refine aw_aload_n (n := 36) (i := 0) dX12_readPlant_35 rfl rfl rfl ?_
    refine aw_getR (n := 39) (j := 3) (r := 91) hG.1 fl_RX12_27 (sF_88 hS) rfl dX12_readPlant_36 rfl ?_
    refine aw_bipush (n := 41) (v := 16) dX12_readPlant_39 rfl (by decide) ?_
    obtain ⟨g_9, h⟩ := Ok.gd h
    refine aw_iaload (n := 42) hG.1 (sF_91 hS) (aIn_in g_9) dX12_readPlant_41 rfl ?_
    refine aw_iconst (n := 43) (v := 1) dX12_readPlant_42 rfl (by decide) ?_
    refine aw_isub (n := 44) dX12_readPlant_43 rfl ?_
    refine aw_cVi (M := M_X12_readPlant) (n := 47) (As := [.int 0, .int ((gI D_8 91 (16 : Int32).toNatClampNeg) - 1)]) (rest := []) hG.1 lk_RX12_234 rfl rfl (sF_88 hS) (c_X12_readNumber hG hS (h := Ok.bi h)) (by decide) (Nat.le_of_ble_eq_true rfl) (by decide) (by decide) dX12_readPlant_44 rfl (fun y_10 D_11 h => ?_)
    refine aw_istore_n (n := 48) (i := 2) (al' := [some (.ref 88), some (.int v1_4), some (.int y_10)]) dX12_readPlant_47 rfl rfl rfl (by decide) rfl ?_
    refine aw_aload_n (n := 49) (i := 0) dX12_readPlant_48 rfl rfl rfl ?_
    refine aw_getR (n := 52) (j := 12) (r := 100) hG.1 fl_RX12_54 (sF_88 hS) rfl dX12_readPlant_49 rfl ?_
    refine aw_iload_n (n := 53) (i := 1) dX12_readPlant_52 rfl rfl rfl ?_
    refine aw_aload_n (n := 54) (i := 0) dX12_readPlant_53 rfl rfl rfl ?_
    refine aw_getR (n := 57) (j := 3) (r := 91) hG.1 fl_RX12_27 (sF_88 hS) rfl dX12_readPlant_54 rfl ?_
    refine aw_bipush (n := 59) (v := 16) dX12_readPlant_57 rfl (by decide) ?_
    obtain ⟨g_12, h⟩ := Ok.gd h
    refine aw_iaload (n := 60) hG.1 (sF_91 hS) (aIn_in g_12) dX12_readPlant_59 rfl ?_
    refine aw_aload_n (n := 61) (i := 0) dX12_readPlant_60 rfl rfl rfl ?_
    refine aw_iconst (n := 62) (v := 0) dX12_readPlant_61 rfl (by decide) ?_
    refine aw_aload_n (n := 63) (i := 0) dX12_readPlant_62 rfl rfl rfl ?_
    refine aw_getR (n := 66) (j := 3) (r := 91) hG.1 fl_RX12_27 (sF_88 hS) rfl dX12_readPlant_63 rfl ?_
    refine aw_bipush (n := 68) (v := 17) dX12_readPlant_66 rfl (by decide) ?_
    obtain ⟨g_13, h⟩ := Ok.gd h
    refine aw_iaload (n := 69) hG.1 (sF_91 hS) (aIn_in g_13) dX12_readPlant_68 rfl ?_
    refine aw_iconst (n := 70) (v := 1) dX12_readPlant_69 rfl (by decide) ?_
    refine aw_isub (n := 71) dX12_readPlant_70 rfl ?_
    refine aw_cVi (M := M_X12_readPlant) (n := 74) (As := [.int 0, .int ((gI D_11 91 (17 : Int32).toNatClampNeg) - 1)]) (rest := [.int (gI D_11 91 (16 : Int32).toNatClampNeg), .int v1_4, .ref 100]) hG.1 lk_RX12_228 rfl rfl (sF_88 hS) (c_X12_numberNow hG hS (h := Ok.bi h)) (by decide) (Nat.le_of_ble_eq_true rfl) (by decide) (by decide) dX12_readPlant_71 rfl (fun y_14 D_15 h => ?_)
    refine aw_imul (n := 75) dX12_readPlant_74 rfl ?_
    refine aw_iload_n (n := 76) (i := 2) dX12_readPlant_75 rfl rfl rfl ?_
    refine aw_iadd (n := 77) dX12_readPlant_76 rfl ?_
    obtain ⟨g_16, h⟩ := Ok.gd h
    obtain ⟨D_17, e_D_17, h⟩ := Ok.let_ h
    refine aw_iastore (n := 78) hG.1 (sF_100 hS) (aIn_in g_16) e_D_17 dX12_readPlant_77 rfl ?_
    refine aw_aload_n (n := 79) (i := 0) dX12_readPlant_78 rfl rfl rfl ?_
    refine aw_getI (n := 82) (j := 25) hG.1 fl_RX12_203 (sF_88 hS) rfl dX12_readPlant_79 rfl ?_
    refine aw_if_ne (n := 85) (tgt := 112) dX12_readPlant_82 rfl (by decide) (fun c => ?_) (fun c => ?_)
    · replace h := Ok.ift h c
      exact aw_le' (hJ_112 v1_4 D_17 h) ⟨rfl, ⟨rfl, trivial⟩⟩
    · replace h := Ok.iffn h c
      refine aw_aload_n (n := 86) (i := 0) dX12_readPlant_85 rfl rfl rfl ?_
      refine aw_bipush (n := 88) (v := 13) dX12_readPlant_86 rfl (by decide) ?_
      refine aw_aload_n (n := 89) (i := 0) dX12_readPlant_88 rfl rfl rfl ?_
      refine aw_getR (n := 92) (j := 3) (r := 91) hG.1 fl_RX12_27 (sF_88 hS) rfl dX12_readPlant_89 rfl ?_
      refine aw_bipush (n := 94) (v := 20) dX12_readPlant_92 rfl (by decide) ?_
      obtain ⟨g_28, h⟩ := Ok.gd h
      refine aw_iaload (n := 95) hG.1 (sF_91 hS) (aIn_in g_28) dX12_readPlant_94 rfl ?_
      refine aw_aload_n (n := 96) (i := 0) dX12_readPlant_95 rfl rfl rfl ?_
      refine aw_getR (n := 99) (j := 12) (r := 100) hG.1 fl_RX12_54 (sF_88 hS) rfl dX12_readPlant_96 rfl ?_
      refine aw_iload_n (n := 100) (i := 1) dX12_readPlant_99 rfl rfl rfl ?_
      obtain ⟨g_29, h⟩ := Ok.gd h
      refine aw_iaload (n := 101) hG.1 (sF_100 hS) (aIn_in g_29) dX12_readPlant_100 rfl ?_
      refine aw_cVi (M := M_X12_readPlant) (n := 104) (As := [.int 13, .int (gI D_17 91 (20 : Int32).toNatClampNeg), .int (gI D_17 100 v1_4.toNatClampNeg)]) (rest := []) hG.1 lk_RX12_251 rfl rfl (sF_88 hS) (c_X12_hasPlant hG hS (h := Ok.bi h)) (by decide) (Nat.le_of_ble_eq_true rfl) (by decide) (by decide) dX12_readPlant_101 rfl (fun y_30 D_31 h => ?_)
      refine aw_if_eq (n := 107) (tgt := 112) dX12_readPlant_104 rfl (by decide) (fun c => ?_) (fun c => ?_)
      · replace h := Ok.ift h c
        exact aw_le' (hJ_112 v1_4 D_31 h) ⟨rfl, ⟨rfl, trivial⟩⟩
      · replace h := Ok.iff h c
        refine aw_aload_n (n := 108) (i := 0) dX12_readPlant_107 rfl rfl rfl ?_
        refine aw_iconst (n := 109) (v := 5) dX12_readPlant_108 rfl (by decide) ?_
        refine aw_cVv (M := M_X12_readPlant) (n := 112) (As := [.int 5]) (rest := []) hG.1 lk_RX12_224 rfl rfl (sF_88 hS) (c_X12_wrong hG hS (h := Ok.bind h)) (by decide) (Nat.le_of_ble_eq_true rfl) (by decide) (by decide) dX12_readPlant_109 rfl (fun D_32 h => ?_)
        exact aw_le' (hJ_112 v1_4 D_32 h) ⟨rfl, ⟨rfl, trivial⟩⟩
  · replace h := Ok.iffn h c
    exact aw_vret rfl (by decide) (by decide) dX12_readPlant_10 ⟨rfl, rfl, (Ok.dn h :)⟩
theorem dX12_readMask_0 : decode cX12_readMask 0 = .ok (.aload_n 0, 1) := by decide +kernel
theorem dX12_readMask_1 : decode cX12_readMask 1 = .ok (.invokevirtual 221, 3) := by decide +kernel
theorem dX12_readMask_4 : decode cX12_readMask 4 = .ok (.aload_n 0, 1) := by decide +kernel
theorem dX12_readMask_5 : decode cX12_readMask 5 = .ok (.iconst 2, 1) := by decide +kernel
theorem dX12_readMask_6 : decode cX12_readMask 6 = .ok (.invokevirtual 248, 3) := by decide +kernel
theorem dX12_readMask_9 : decode cX12_readMask 9 = .ok (.istore_n 1, 1) := by decide +kernel
theorem dX12_readMask_10 : decode cX12_readMask 10 = .ok (.aload_n 0, 1) := by decide +kernel
theorem dX12_readMask_11 : decode cX12_readMask 11 = .ok (.iconst 2, 1) := by decide +kernel
theorem dX12_readMask_12 : decode cX12_readMask 12 = .ok (.invokevirtual 237, 3) := by decide +kernel
theorem dX12_readMask_15 : decode cX12_readMask 15 = .ok (.istore_n 2, 1) := by decide +kernel
theorem dX12_readMask_16 : decode cX12_readMask 16 = .ok (.bipush 36, 2) := by decide +kernel
theorem dX12_readMask_18 : decode cX12_readMask 18 = .ok (.bipush 6, 2) := by decide +kernel
theorem dX12_readMask_20 : decode cX12_readMask 20 = .ok (.iload_n 1, 1) := by decide +kernel
theorem dX12_readMask_21 : decode cX12_readMask 21 = .ok (.imul, 1) := by decide +kernel
theorem dX12_readMask_22 : decode cX12_readMask 22 = .ok (.iadd, 1) := by decide +kernel
theorem dX12_readMask_23 : decode cX12_readMask 23 = .ok (.iload_n 2, 1) := by decide +kernel
theorem dX12_readMask_24 : decode cX12_readMask 24 = .ok (.iadd, 1) := by decide +kernel
theorem dX12_readMask_25 : decode cX12_readMask 25 = .ok (.istore_n 3, 1) := by decide +kernel
theorem dX12_readMask_26 : decode cX12_readMask 26 = .ok (.aload_n 0, 1) := by decide +kernel
theorem dX12_readMask_27 : decode cX12_readMask 27 = .ok (.getfield 203, 3) := by decide +kernel
theorem dX12_readMask_30 : decode cX12_readMask 30 = .ok (.ifCond .ne 22, 3) := by decide +kernel
theorem dX12_readMask_33 : decode cX12_readMask 33 = .ok (.iload_n 1, 1) := by decide +kernel
theorem dX12_readMask_34 : decode cX12_readMask 34 = .ok (.iload_n 2, 1) := by decide +kernel
theorem dX12_readMask_35 : decode cX12_readMask 35 = .ok (.if_icmp .eq 12, 3) := by decide +kernel
theorem dX12_readMask_38 : decode cX12_readMask 38 = .ok (.aload_n 0, 1) := by decide +kernel
theorem dX12_readMask_39 : decode cX12_readMask 39 = .ok (.getfield 63, 3) := by decide +kernel
theorem dX12_readMask_42 : decode cX12_readMask 42 = .ok (.iload_n 3, 1) := by decide +kernel
theorem dX12_readMask_43 : decode cX12_readMask 43 = .ok (.iaload, 1) := by decide +kernel
theorem dX12_readMask_44 : decode cX12_readMask 44 = .ok (.ifCond .le 8, 3) := by decide +kernel
theorem dX12_readMask_47 : decode cX12_readMask 47 = .ok (.aload_n 0, 1) := by decide +kernel
theorem dX12_readMask_48 : decode cX12_readMask 48 = .ok (.iconst 5, 1) := by decide +kernel
theorem dX12_readMask_49 : decode cX12_readMask 49 = .ok (.invokevirtual 224, 3) := by decide +kernel
theorem dX12_readMask_52 : decode cX12_readMask 52 = .ok (.aload_n 0, 1) := by decide +kernel
theorem dX12_readMask_53 : decode cX12_readMask 53 = .ok (.getfield 203, 3) := by decide +kernel
theorem dX12_readMask_56 : decode cX12_readMask 56 = .ok (.ifCond .eq 4, 3) := by decide +kernel
theorem dX12_readMask_59 : decode cX12_readMask 59 = .ok (.return_, 1) := by decide +kernel
theorem dX12_readMask_60 : decode cX12_readMask 60 = .ok (.aload_n 0, 1) := by decide +kernel
theorem dX12_readMask_61 : decode cX12_readMask 61 = .ok (.invokevirtual 221, 3) := by decide +kernel
theorem dX12_readMask_64 : decode cX12_readMask 64 = .ok (.aload_n 0, 1) := by decide +kernel
theorem dX12_readMask_65 : decode cX12_readMask 65 = .ok (.getfield 63, 3) := by decide +kernel
theorem dX12_readMask_68 : decode cX12_readMask 68 = .ok (.iload_n 3, 1) := by decide +kernel
theorem dX12_readMask_69 : decode cX12_readMask 69 = .ok (.aload_n 0, 1) := by decide +kernel
theorem dX12_readMask_70 : decode cX12_readMask 70 = .ok (.iconst 1, 1) := by decide +kernel
theorem dX12_readMask_71 : decode cX12_readMask 71 = .ok (.bipush 100, 2) := by decide +kernel
theorem dX12_readMask_73 : decode cX12_readMask 73 = .ok (.invokevirtual 234, 3) := by decide +kernel
theorem dX12_readMask_76 : decode cX12_readMask 76 = .ok (.iastore, 1) := by decide +kernel
theorem dX12_readMask_77 : decode cX12_readMask 77 = .ok (.return_, 1) := by decide +kernel
def J_X12_readMask_52 (v3 : Int32) (D : aD) : Option (aD) :=
  if gI D 88 25 = 0 then ((f_X12_stepOn D).bind (fun D_7 => aBi (f_X12_readNumber 1 100 D_7) (fun y_8 D_9 => aGd (aIn v3 72) (aLet (pI D_9 103 v3.toNatClampNeg y_8) (fun D_11 => some D_11))))) else (some D)
def J_X12_readMask_47 (v3 : Int32) (D : aD) : Option (aD) :=
  (f_X12_wrong 5 D).bind (fun D_12 => J_X12_readMask_52 v3 D_12)
def f_X12_readMask (D : aD) : Option (aD) :=
  (f_X12_stepOn D).bind (fun D_1 => aBi (f_X12_readOne 2 D_1) (fun y_2 D_3 => aBi (f_X12_oneNow 2 D_3) (fun y_4 D_5 => aLet ((36 + (6 * y_2)) + y_4) (fun v3_6 => if gI D_5 88 25 ≠ 0 then (J_X12_readMask_52 v3_6 D_5) else (if y_2 = y_4 then (J_X12_readMask_47 v3_6 D_5) else (aGd (aIn v3_6 72) (if gI D_5 103 v3_6.toNatClampNeg ≤ 0 then (J_X12_readMask_52 v3_6 D_5) else (J_X12_readMask_47 v3_6 D_5))))))))
set_option maxRecDepth 100000 in
set_option maxHeartbeats 800000 in
theorem c_X12_readMask {G : aG} (hG : gOK G) {shp : List aSh} (hS : aShp shp) {fr : Option Nat} {D : aD} {K : aD → Prop} (h : Ok (f_X12_readMask D) K) : AC G (aRm 5 0 0) M_X12_readMask [.ref 88] fr shp D (aQv shp K) := by
  unfold f_X12_readMask at h
  refine AC.of (al := [some (.ref 88), none, none, none]) (r := 3) (by decide) (Nat.le_of_ble_eq_true rfl) rfl ?_
  have hJ_52 : ∀ (v3 : Int32) (D : aD), Ok (J_X12_readMask_52 v3 D) K → AW G (aRm 5 0 0) M_X12_readMask fr 0 0 52 [some (.ref 88), none, none, some (.int v3)] [] shp D (aQv shp K) := by
    intro v3 D h
    unfold J_X12_readMask_52 at h
    refine aw_aload_n (n := 53) (i := 0) dX12_readMask_52 rfl rfl rfl ?_
    refine aw_getI (n := 56) (j := 25) hG.1 fl_RX12_203 (sF_88 hS) rfl dX12_readMask_53 rfl ?_
    refine aw_if_eq (n := 59) (tgt := 60) dX12_readMask_56 rfl (by decide) (fun c => ?_) (fun c => ?_)
    · replace h := Ok.ift h c
      refine aw_aload_n (n := 61) (i := 0) dX12_readMask_60 rfl rfl rfl ?_
      refine aw_cVv (M := M_X12_readMask) (n := 64) (As := []) (rest := []) hG.1 lk_RX12_221 rfl rfl (sF_88 hS) (c_X12_stepOn hG hS (h := Ok.bind h)) (by decide) (Nat.le_of_ble_eq_true rfl) (by decide) (by decide) dX12_readMask_61 rfl (fun D_7 h => ?_)
      refine aw_aload_n (n := 65) (i := 0) dX12_readMask_64 rfl rfl rfl ?_
      refine aw_getR (n := 68) (j := 15) (r := 103) hG.1 fl_RX12_63 (sF_88 hS) rfl dX12_readMask_65 rfl ?_
      refine aw_iload_n (n := 69) (i := 3) dX12_readMask_68 rfl rfl rfl ?_
      refine aw_aload_n (n := 70) (i := 0) dX12_readMask_69 rfl rfl rfl ?_
      refine aw_iconst (n := 71) (v := 1) dX12_readMask_70 rfl (by decide) ?_
      refine aw_bipush (n := 73) (v := 100) dX12_readMask_71 rfl (by decide) ?_
      refine aw_cVi (M := M_X12_readMask) (n := 76) (As := [.int 1, .int 100]) (rest := [.int v3, .ref 103]) hG.1 lk_RX12_234 rfl rfl (sF_88 hS) (c_X12_readNumber hG hS (h := Ok.bi h)) (by decide) (Nat.le_of_ble_eq_true rfl) (by decide) (by decide) dX12_readMask_73 rfl (fun y_8 D_9 h => ?_)
      obtain ⟨g_10, h⟩ := Ok.gd h
      obtain ⟨D_11, e_D_11, h⟩ := Ok.let_ h
      refine aw_iastore (n := 77) hG.1 (sF_103 hS) (aIn_in g_10) e_D_11 dX12_readMask_76 rfl ?_
      exact aw_vret rfl (by decide) (by decide) dX12_readMask_77 ⟨rfl, rfl, (Ok.dn h :)⟩
    · replace h := Ok.iff h c
      exact aw_vret rfl (by decide) (by decide) dX12_readMask_59 ⟨rfl, rfl, (Ok.dn h :)⟩
  have hJ_47 : ∀ (v3 : Int32) (D : aD), Ok (J_X12_readMask_47 v3 D) K → AW G (aRm 5 0 0) M_X12_readMask fr 0 0 47 [some (.ref 88), none, none, some (.int v3)] [] shp D (aQv shp K) := by
    intro v3 D h
    unfold J_X12_readMask_47 at h
    refine aw_aload_n (n := 48) (i := 0) dX12_readMask_47 rfl rfl rfl ?_
    refine aw_iconst (n := 49) (v := 5) dX12_readMask_48 rfl (by decide) ?_
    refine aw_cVv (M := M_X12_readMask) (n := 52) (As := [.int 5]) (rest := []) hG.1 lk_RX12_224 rfl rfl (sF_88 hS) (c_X12_wrong hG hS (h := Ok.bind h)) (by decide) (Nat.le_of_ble_eq_true rfl) (by decide) (by decide) dX12_readMask_49 rfl (fun D_12 h => ?_)
    exact aw_le' (hJ_52 v3 D_12 h) ⟨rfl, ⟨rfl, trivial⟩⟩
  refine aw_aload_n (n := 1) (i := 0) dX12_readMask_0 rfl rfl rfl ?_
  refine aw_cVv (M := M_X12_readMask) (n := 4) (As := []) (rest := []) hG.1 lk_RX12_221 rfl rfl (sF_88 hS) (c_X12_stepOn hG hS (h := Ok.bind h)) (by decide) (Nat.le_of_ble_eq_true rfl) (by decide) (by decide) dX12_readMask_1 rfl (fun D_1 h => ?_)
  refine aw_aload_n (n := 5) (i := 0) dX12_readMask_4 rfl rfl rfl ?_
  refine aw_iconst (n := 6) (v := 2) dX12_readMask_5 rfl (by decide) ?_
  refine aw_cVi (M := M_X12_readMask) (n := 9) (As := [.int 2]) (rest := []) hG.1 lk_RX12_248 rfl rfl (sF_88 hS) (c_X12_readOne hG hS (h := Ok.bi h)) (by decide) (Nat.le_of_ble_eq_true rfl) (by decide) (by decide) dX12_readMask_6 rfl (fun y_2 D_3 h => ?_)
  refine aw_istore_n (n := 10) (i := 1) (al' := [some (.ref 88), some (.int y_2), none, none]) dX12_readMask_9 rfl rfl rfl (by decide) rfl ?_
  refine aw_aload_n (n := 11) (i := 0) dX12_readMask_10 rfl rfl rfl ?_
  refine aw_iconst (n := 12) (v := 2) dX12_readMask_11 rfl (by decide) ?_
  refine aw_cVi (M := M_X12_readMask) (n := 15) (As := [.int 2]) (rest := []) hG.1 lk_RX12_237 rfl rfl (sF_88 hS) (c_X12_oneNow hG hS (h := Ok.bi h)) (by decide) (Nat.le_of_ble_eq_true rfl) (by decide) (by decide) dX12_readMask_12 rfl (fun y_4 D_5 h => ?_)
  refine aw_istore_n (n := 16) (i := 2) (al' := [some (.ref 88), some (.int y_2), some (.int y_4), none]) dX12_readMask_15 rfl rfl rfl (by decide) rfl ?_
  refine aw_bipush (n := 18) (v := 36) dX12_readMask_16 rfl (by decide) ?_
  refine aw_bipush (n := 20) (v := 6) dX12_readMask_18 rfl (by decide) ?_
  refine aw_iload_n (n := 21) (i := 1) dX12_readMask_20 rfl rfl rfl ?_
  refine aw_imul (n := 22) dX12_readMask_21 rfl ?_
  refine aw_iadd (n := 23) dX12_readMask_22 rfl ?_
  refine aw_iload_n (n := 24) (i := 2) dX12_readMask_23 rfl rfl rfl ?_
  refine aw_iadd (n := 25) dX12_readMask_24 rfl ?_
  obtain ⟨v3_6, e_v3_6, h⟩ := Ok.let_ h
  refine aw_istore_n (n := 26) (i := 3) (al' := [some (.ref 88), some (.int y_2), some (.int y_4), some (.int v3_6)]) dX12_readMask_25 rfl rfl e_v3_6 (by decide) rfl ?_
  refine aw_aload_n (n := 27) (i := 0) dX12_readMask_26 rfl rfl rfl ?_
  refine aw_getI (n := 30) (j := 25) hG.1 fl_RX12_203 (sF_88 hS) rfl dX12_readMask_27 rfl ?_
  refine aw_if_ne (n := 33) (tgt := 52) dX12_readMask_30 rfl (by decide) (fun c => ?_) (fun c => ?_)
  · replace h := Ok.ift h c
    exact aw_le' (hJ_52 v3_6 D_5 h) ⟨rfl, ⟨rfl, trivial⟩⟩
  · replace h := Ok.iffn h c
    refine aw_iload_n (n := 34) (i := 1) dX12_readMask_33 rfl rfl rfl ?_
    refine aw_iload_n (n := 35) (i := 2) dX12_readMask_34 rfl rfl rfl ?_
    refine aw_icmp_eq (n := 38) (tgt := 47) dX12_readMask_35 rfl (by decide) (fun c => ?_) (fun c => ?_)
    · replace h := Ok.ift h c
      exact aw_le' (hJ_47 v3_6 D_5 h) ⟨rfl, ⟨rfl, trivial⟩⟩
    · replace h := Ok.iff h c
      refine aw_aload_n (n := 39) (i := 0) dX12_readMask_38 rfl rfl rfl ?_
      refine aw_getR (n := 42) (j := 15) (r := 103) hG.1 fl_RX12_63 (sF_88 hS) rfl dX12_readMask_39 rfl ?_
      refine aw_iload_n (n := 43) (i := 3) dX12_readMask_42 rfl rfl rfl ?_
      obtain ⟨g_13, h⟩ := Ok.gd h
      refine aw_iaload (n := 44) hG.1 (sF_103 hS) (aIn_in g_13) dX12_readMask_43 rfl ?_
      refine aw_if_le (n := 47) (tgt := 52) dX12_readMask_44 rfl (by decide) (fun c => ?_) (fun c => ?_)
      · replace h := Ok.ift h c
        exact aw_le' (hJ_52 v3_6 D_5 h) ⟨rfl, ⟨rfl, trivial⟩⟩
      · replace h := Ok.iff h c
        exact aw_le' (hJ_47 v3_6 D_5 h) ⟨rfl, ⟨rfl, trivial⟩⟩
theorem dX12_readOnce_0 : decode cX12_readOnce 0 = .ok (.aload_n 0, 1) := by decide +kernel
theorem dX12_readOnce_1 : decode cX12_readOnce 1 = .ok (.invokevirtual 221, 3) := by decide +kernel
theorem dX12_readOnce_4 : decode cX12_readOnce 4 = .ok (.iload_n 1, 1) := by decide +kernel
theorem dX12_readOnce_5 : decode cX12_readOnce 5 = .ok (.ifCond .lt 24, 3) := by decide +kernel
theorem dX12_readOnce_8 : decode cX12_readOnce 8 = .ok (.aload_n 0, 1) := by decide +kernel
theorem dX12_readOnce_9 : decode cX12_readOnce 9 = .ok (.getfield 27, 3) := by decide +kernel
theorem dX12_readOnce_12 : decode cX12_readOnce 12 = .ok (.bipush 22, 2) := by decide +kernel
theorem dX12_readOnce_14 : decode cX12_readOnce 14 = .ok (.iload_n 1, 1) := by decide +kernel
theorem dX12_readOnce_15 : decode cX12_readOnce 15 = .ok (.iadd, 1) := by decide +kernel
theorem dX12_readOnce_16 : decode cX12_readOnce 16 = .ok (.aload_n 0, 1) := by decide +kernel
theorem dX12_readOnce_17 : decode cX12_readOnce 17 = .ok (.iconst 0, 1) := by decide +kernel
theorem dX12_readOnce_18 : decode cX12_readOnce 18 = .ok (.aload_n 0, 1) := by decide +kernel
theorem dX12_readOnce_19 : decode cX12_readOnce 19 = .ok (.getfield 23, 3) := by decide +kernel
theorem dX12_readOnce_22 : decode cX12_readOnce 22 = .ok (.iload_n 1, 1) := by decide +kernel
theorem dX12_readOnce_23 : decode cX12_readOnce 23 = .ok (.iaload, 1) := by decide +kernel
theorem dX12_readOnce_24 : decode cX12_readOnce 24 = .ok (.invokevirtual 234, 3) := by decide +kernel
theorem dX12_readOnce_27 : decode cX12_readOnce 27 = .ok (.iastore, 1) := by decide +kernel
theorem dX12_readOnce_28 : decode cX12_readOnce 28 = .ok (.return_, 1) := by decide +kernel
theorem dX12_readOnce_29 : decode cX12_readOnce 29 = .ok (.iconst 0, 1) := by decide +kernel
theorem dX12_readOnce_30 : decode cX12_readOnce 30 = .ok (.istore_n 2, 1) := by decide +kernel
theorem dX12_readOnce_31 : decode cX12_readOnce 31 = .ok (.iload_n 2, 1) := by decide +kernel
theorem dX12_readOnce_32 : decode cX12_readOnce 32 = .ok (.iconst 5, 1) := by decide +kernel
theorem dX12_readOnce_33 : decode cX12_readOnce 33 = .ok (.if_icmp .ge 25, 3) := by decide +kernel
theorem dX12_readOnce_36 : decode cX12_readOnce 36 = .ok (.aload_n 0, 1) := by decide +kernel
theorem dX12_readOnce_37 : decode cX12_readOnce 37 = .ok (.getfield 27, 3) := by decide +kernel
theorem dX12_readOnce_40 : decode cX12_readOnce 40 = .ok (.bipush 26, 2) := by decide +kernel
theorem dX12_readOnce_42 : decode cX12_readOnce 42 = .ok (.iload_n 2, 1) := by decide +kernel
theorem dX12_readOnce_43 : decode cX12_readOnce 43 = .ok (.iadd, 1) := by decide +kernel
theorem dX12_readOnce_44 : decode cX12_readOnce 44 = .ok (.aload_n 0, 1) := by decide +kernel
theorem dX12_readOnce_45 : decode cX12_readOnce 45 = .ok (.iconst 0, 1) := by decide +kernel
theorem dX12_readOnce_46 : decode cX12_readOnce 46 = .ok (.bipush 99, 2) := by decide +kernel
theorem dX12_readOnce_48 : decode cX12_readOnce 48 = .ok (.invokevirtual 234, 3) := by decide +kernel
theorem dX12_readOnce_51 : decode cX12_readOnce 51 = .ok (.iastore, 1) := by decide +kernel
theorem dX12_readOnce_52 : decode cX12_readOnce 52 = .ok (.iinc 2 1, 3) := by decide +kernel
theorem dX12_readOnce_55 : decode cX12_readOnce 55 = .ok (.goto (-24), 3) := by decide +kernel
theorem dX12_readOnce_58 : decode cX12_readOnce 58 = .ok (.return_, 1) := by decide +kernel
def J_X12_readOnce_58 (D : aD) : Option (aD) :=
  some D
def B_X12_readOnce_31 (v2 : Int32) (D : aD) : Option ((Int32 × aD) ⊕ ((aD))) :=
  if 5 ≤ v2 then (some (.inr D)) else (aBi (f_X12_readNumber 0 99 D) (fun y_2 D_3 => aGd (aIn (26 + v2) 32) (aLet (pI D_3 91 (26 + v2).toNatClampNeg y_2) (fun D_5 => aLet (v2 + 1) (fun v2_6 => some (.inl (v2_6, D_5)))))))
def J_X12_readOnce_31 (v2 : Int32) (D : aD) : Option (aD) :=
  (aLp (fun s => B_X12_readOnce_31 s.1 s.2) (v2, D)).bind (fun r => J_X12_readOnce_58 r)
def f_X12_readOnce (v1 : Int32) (D : aD) : Option (aD) :=
  (f_X12_stepOn D).bind (fun D_1 => if v1 < 0 then (J_X12_readOnce_31 0 D_1) else (aGd (aIn v1 4) (aBi (f_X12_readNumber 0 (gI D_1 90 v1.toNatClampNeg) D_1) (fun y_8 D_9 => aGd (aIn (22 + v1) 32) (aLet (pI D_9 91 (22 + v1).toNatClampNeg y_8) (fun D_11 => some D_11))))))
set_option maxRecDepth 100000 in
set_option maxHeartbeats 800000 in
theorem c_X12_readOnce {G : aG} (hG : gOK G) {shp : List aSh} (hS : aShp shp) {fr : Option Nat} {v1 : Int32} {D : aD} {K : aD → Prop} (h : Ok (f_X12_readOnce v1 D) K) : AC G (aRm 4 0 0) M_X12_readOnce [.ref 88, .int v1] fr shp D (aQv shp K) := by
  unfold f_X12_readOnce at h
  refine AC.of (al := [some (.ref 88), some (.int v1), none]) (r := 1) (by decide) (Nat.le_of_ble_eq_true rfl) rfl ?_
  have hJ_58 : ∀ (D : aD), Ok (J_X12_readOnce_58 D) K → AW G (aRm 4 0 0) M_X12_readOnce fr 0 0 58 [none, none, none] [] shp D (aQv shp K) := by
    intro D h
    unfold J_X12_readOnce_58 at h
    exact aw_vret rfl (by decide) (by decide) dX12_readOnce_58 ⟨rfl, rfl, (Ok.dn h :)⟩
  have hJ_31 : ∀ (v2 : Int32) (D : aD), Ok (J_X12_readOnce_31 v2 D) K → AW G (aRm 4 0 0) M_X12_readOnce fr 0 0 31 [some (.ref 88), none, some (.int v2)] [] shp D (aQv shp K) := by
    intro v2 D h
    unfold J_X12_readOnce_31 at h
    refine Ok.lp (P := fun s => AW G (aRm 4 0 0) M_X12_readOnce fr 0 0 31 [some (.ref 88), none, some (.int (s.1))] [] shp s.2 (aQv shp K)) (fun s Kb31 hL31 hR31 h => ?_) (v2, D) (Ok.bind h)
    obtain ⟨v2, D⟩ := s
    replace h : Ok (B_X12_readOnce_31 v2 D) Kb31 := h
    unfold B_X12_readOnce_31 at h
    refine aw_iload_n (n := 32) (i := 2) dX12_readOnce_31 rfl rfl rfl ?_
    refine aw_iconst (n := 33) (v := 5) dX12_readOnce_32 rfl (by decide) ?_
    refine aw_icmp_ge (n := 36) (tgt := 58) dX12_readOnce_33 rfl (by decide) (fun c => ?_) (fun c => ?_)
    · replace h := Ok.ift h c
      exact aw_le' (hJ_58 D (hR31 D (Ok.dn h :))) trivial
    · replace h := Ok.iff h c
      refine aw_aload_n (n := 37) (i := 0) dX12_readOnce_36 rfl rfl rfl ?_
      refine aw_getR (n := 40) (j := 3) (r := 91) hG.1 fl_RX12_27 (sF_88 hS) rfl dX12_readOnce_37 rfl ?_
      refine aw_bipush (n := 42) (v := 26) dX12_readOnce_40 rfl (by decide) ?_
      refine aw_iload_n (n := 43) (i := 2) dX12_readOnce_42 rfl rfl rfl ?_
      refine aw_iadd (n := 44) dX12_readOnce_43 rfl ?_
      refine aw_aload_n (n := 45) (i := 0) dX12_readOnce_44 rfl rfl rfl ?_
      refine aw_iconst (n := 46) (v := 0) dX12_readOnce_45 rfl (by decide) ?_
      refine aw_bipush (n := 48) (v := 99) dX12_readOnce_46 rfl (by decide) ?_
      refine aw_cVi (M := M_X12_readOnce) (n := 51) (As := [.int 0, .int 99]) (rest := [.int (26 + v2), .ref 91]) hG.1 lk_RX12_234 rfl rfl (sF_88 hS) (c_X12_readNumber hG hS (h := Ok.bi h)) (by decide) (Nat.le_of_ble_eq_true rfl) (by decide) (by decide) dX12_readOnce_48 rfl (fun y_2 D_3 h => ?_)
      obtain ⟨g_4, h⟩ := Ok.gd h
      obtain ⟨D_5, e_D_5, h⟩ := Ok.let_ h
      refine aw_iastore (n := 52) hG.1 (sF_91 hS) (aIn_in g_4) e_D_5 dX12_readOnce_51 rfl ?_
      obtain ⟨v2_6, e_v2_6, h⟩ := Ok.let_ h
      refine aw_iinc (n := 55) (al' := [some (.ref 88), none, some (.int v2_6)]) dX12_readOnce_52 rfl rfl e_v2_6 (by decide) rfl ?_
      refine aw_goto (tgt := 31) dX12_readOnce_55 (by decide) ?_
      exact aw_le' (hL31 (v2_6, D_5) (Ok.dn h :)) ⟨rfl, ⟨rfl, trivial⟩⟩
  refine aw_aload_n (n := 1) (i := 0) dX12_readOnce_0 rfl rfl rfl ?_
  refine aw_cVv (M := M_X12_readOnce) (n := 4) (As := []) (rest := []) hG.1 lk_RX12_221 rfl rfl (sF_88 hS) (c_X12_stepOn hG hS (h := Ok.bind h)) (by decide) (Nat.le_of_ble_eq_true rfl) (by decide) (by decide) dX12_readOnce_1 rfl (fun D_1 h => ?_)
  refine aw_iload_n (n := 5) (i := 1) dX12_readOnce_4 rfl rfl rfl ?_
  refine aw_if_lt (n := 8) (tgt := 29) dX12_readOnce_5 rfl (by decide) (fun c => ?_) (fun c => ?_)
  · replace h := Ok.ift h c
    refine aw_iconst (n := 30) (v := 0) dX12_readOnce_29 rfl (by decide) ?_
    refine aw_istore_n (n := 31) (i := 2) (al' := [some (.ref 88), some (.int v1), some (.int 0)]) dX12_readOnce_30 rfl rfl rfl (by decide) rfl ?_
    exact aw_le' (hJ_31 0 D_1 h) ⟨rfl, ⟨rfl, trivial⟩⟩
  · replace h := Ok.iff h c
    refine aw_aload_n (n := 9) (i := 0) dX12_readOnce_8 rfl rfl rfl ?_
    refine aw_getR (n := 12) (j := 3) (r := 91) hG.1 fl_RX12_27 (sF_88 hS) rfl dX12_readOnce_9 rfl ?_
    refine aw_bipush (n := 14) (v := 22) dX12_readOnce_12 rfl (by decide) ?_
    refine aw_iload_n (n := 15) (i := 1) dX12_readOnce_14 rfl rfl rfl ?_
    refine aw_iadd (n := 16) dX12_readOnce_15 rfl ?_
    refine aw_aload_n (n := 17) (i := 0) dX12_readOnce_16 rfl rfl rfl ?_
    refine aw_iconst (n := 18) (v := 0) dX12_readOnce_17 rfl (by decide) ?_
    refine aw_aload_n (n := 19) (i := 0) dX12_readOnce_18 rfl rfl rfl ?_
    refine aw_getR (n := 22) (j := 1) (r := 90) hG.1 fl_RX12_23 (sF_88 hS) rfl dX12_readOnce_19 rfl ?_
    refine aw_iload_n (n := 23) (i := 1) dX12_readOnce_22 rfl rfl rfl ?_
    obtain ⟨g_7, h⟩ := Ok.gd h
    refine aw_iaload (n := 24) hG.1 (sF_90 hS) (aIn_in g_7) dX12_readOnce_23 rfl ?_
    refine aw_cVi (M := M_X12_readOnce) (n := 27) (As := [.int 0, .int (gI D_1 90 v1.toNatClampNeg)]) (rest := [.int (22 + v1), .ref 91]) hG.1 lk_RX12_234 rfl rfl (sF_88 hS) (c_X12_readNumber hG hS (h := Ok.bi h)) (by decide) (Nat.le_of_ble_eq_true rfl) (by decide) (by decide) dX12_readOnce_24 rfl (fun y_8 D_9 h => ?_)
    obtain ⟨g_10, h⟩ := Ok.gd h
    obtain ⟨D_11, e_D_11, h⟩ := Ok.let_ h
    refine aw_iastore (n := 28) hG.1 (sF_91 hS) (aIn_in g_10) e_D_11 dX12_readOnce_27 rfl ?_
    exact aw_vret rfl (by decide) (by decide) dX12_readOnce_28 ⟨rfl, rfl, (Ok.dn h :)⟩
theorem dX12_readTown_0 : decode cX12_readTown 0 = .ok (.aload_n 0, 1) := by decide +kernel
theorem dX12_readTown_1 : decode cX12_readTown 1 = .ok (.invokevirtual 221, 3) := by decide +kernel
theorem dX12_readTown_4 : decode cX12_readTown 4 = .ok (.aload_n 0, 1) := by decide +kernel
theorem dX12_readTown_5 : decode cX12_readTown 5 = .ok (.getfield 27, 3) := by decide +kernel
theorem dX12_readTown_8 : decode cX12_readTown 8 = .ok (.bipush 16, 2) := by decide +kernel
theorem dX12_readTown_10 : decode cX12_readTown 10 = .ok (.aload_n 0, 1) := by decide +kernel
theorem dX12_readTown_11 : decode cX12_readTown 11 = .ok (.iconst 2, 1) := by decide +kernel
theorem dX12_readTown_12 : decode cX12_readTown 12 = .ok (.bipush 8, 2) := by decide +kernel
theorem dX12_readTown_14 : decode cX12_readTown 14 = .ok (.invokevirtual 234, 3) := by decide +kernel
theorem dX12_readTown_17 : decode cX12_readTown 17 = .ok (.iastore, 1) := by decide +kernel
theorem dX12_readTown_18 : decode cX12_readTown 18 = .ok (.aload_n 0, 1) := by decide +kernel
theorem dX12_readTown_19 : decode cX12_readTown 19 = .ok (.getfield 27, 3) := by decide +kernel
theorem dX12_readTown_22 : decode cX12_readTown 22 = .ok (.bipush 17, 2) := by decide +kernel
theorem dX12_readTown_24 : decode cX12_readTown 24 = .ok (.aload_n 0, 1) := by decide +kernel
theorem dX12_readTown_25 : decode cX12_readTown 25 = .ok (.iconst 2, 1) := by decide +kernel
theorem dX12_readTown_26 : decode cX12_readTown 26 = .ok (.bipush 8, 2) := by decide +kernel
theorem dX12_readTown_28 : decode cX12_readTown 28 = .ok (.invokevirtual 234, 3) := by decide +kernel
theorem dX12_readTown_31 : decode cX12_readTown 31 = .ok (.iastore, 1) := by decide +kernel
theorem dX12_readTown_32 : decode cX12_readTown 32 = .ok (.return_, 1) := by decide +kernel
def f_X12_readTown (D : aD) : Option (aD) :=
  (f_X12_stepOn D).bind (fun D_1 => aBi (f_X12_readNumber 2 8 D_1) (fun y_2 D_3 => aGd (aIn 16 32) (aLet (pI D_3 91 (16 : Int32).toNatClampNeg y_2) (fun D_5 => aBi (f_X12_readNumber 2 8 D_5) (fun y_6 D_7 => aGd (aIn 17 32) (aLet (pI D_7 91 (17 : Int32).toNatClampNeg y_6) (fun D_9 => some D_9)))))))
set_option maxRecDepth 100000 in
set_option maxHeartbeats 800000 in
theorem c_X12_readTown {G : aG} (hG : gOK G) {shp : List aSh} (hS : aShp shp) {fr : Option Nat} {D : aD} {K : aD → Prop} (h : Ok (f_X12_readTown D) K) : AC G (aRm 4 0 0) M_X12_readTown [.ref 88] fr shp D (aQv shp K) := by
  unfold f_X12_readTown at h
  refine AC.of (al := [some (.ref 88)]) (r := 0) (by decide) (Nat.le_of_ble_eq_true rfl) rfl ?_
  refine aw_aload_n (n := 1) (i := 0) dX12_readTown_0 rfl rfl rfl ?_
  refine aw_cVv (M := M_X12_readTown) (n := 4) (As := []) (rest := []) hG.1 lk_RX12_221 rfl rfl (sF_88 hS) (c_X12_stepOn hG hS (h := Ok.bind h)) (by decide) (Nat.le_of_ble_eq_true rfl) (by decide) (by decide) dX12_readTown_1 rfl (fun D_1 h => ?_)
  refine aw_aload_n (n := 5) (i := 0) dX12_readTown_4 rfl rfl rfl ?_
  refine aw_getR (n := 8) (j := 3) (r := 91) hG.1 fl_RX12_27 (sF_88 hS) rfl dX12_readTown_5 rfl ?_
  refine aw_bipush (n := 10) (v := 16) dX12_readTown_8 rfl (by decide) ?_
  refine aw_aload_n (n := 11) (i := 0) dX12_readTown_10 rfl rfl rfl ?_
  refine aw_iconst (n := 12) (v := 2) dX12_readTown_11 rfl (by decide) ?_
  refine aw_bipush (n := 14) (v := 8) dX12_readTown_12 rfl (by decide) ?_
  refine aw_cVi (M := M_X12_readTown) (n := 17) (As := [.int 2, .int 8]) (rest := [.int 16, .ref 91]) hG.1 lk_RX12_234 rfl rfl (sF_88 hS) (c_X12_readNumber hG hS (h := Ok.bi h)) (by decide) (Nat.le_of_ble_eq_true rfl) (by decide) (by decide) dX12_readTown_14 rfl (fun y_2 D_3 h => ?_)
  obtain ⟨g_4, h⟩ := Ok.gd h
  obtain ⟨D_5, e_D_5, h⟩ := Ok.let_ h
  refine aw_iastore (n := 18) hG.1 (sF_91 hS) (aIn_in g_4) e_D_5 dX12_readTown_17 rfl ?_
  refine aw_aload_n (n := 19) (i := 0) dX12_readTown_18 rfl rfl rfl ?_
  refine aw_getR (n := 22) (j := 3) (r := 91) hG.1 fl_RX12_27 (sF_88 hS) rfl dX12_readTown_19 rfl ?_
  refine aw_bipush (n := 24) (v := 17) dX12_readTown_22 rfl (by decide) ?_
  refine aw_aload_n (n := 25) (i := 0) dX12_readTown_24 rfl rfl rfl ?_
  refine aw_iconst (n := 26) (v := 2) dX12_readTown_25 rfl (by decide) ?_
  refine aw_bipush (n := 28) (v := 8) dX12_readTown_26 rfl (by decide) ?_
  refine aw_cVi (M := M_X12_readTown) (n := 31) (As := [.int 2, .int 8]) (rest := [.int 17, .ref 91]) hG.1 lk_RX12_234 rfl rfl (sF_88 hS) (c_X12_readNumber hG hS (h := Ok.bi h)) (by decide) (Nat.le_of_ble_eq_true rfl) (by decide) (by decide) dX12_readTown_28 rfl (fun y_6 D_7 h => ?_)
  obtain ⟨g_8, h⟩ := Ok.gd h
  obtain ⟨D_9, e_D_9, h⟩ := Ok.let_ h
  refine aw_iastore (n := 32) hG.1 (sF_91 hS) (aIn_in g_8) e_D_9 dX12_readTown_31 rfl ?_
  exact aw_vret rfl (by decide) (by decide) dX12_readTown_32 ⟨rfl, rfl, (Ok.dn h :)⟩
theorem dX12_readBy_0 : decode cX12_readBy 0 = .ok (.iload_n 1, 1) := by decide +kernel
theorem dX12_readBy_1 : decode cX12_readBy 1 = .ok (.bipush 32, 2) := by decide +kernel
theorem dX12_readBy_3 : decode cX12_readBy 3 = .ok (.if_icmp .ne 10, 3) := by decide +kernel
theorem dX12_readBy_6 : decode cX12_readBy 6 = .ok (.aload_n 0, 1) := by decide +kernel
theorem dX12_readBy_7 : decode cX12_readBy 7 = .ok (.invokevirtual 267, 3) := by decide +kernel
theorem dX12_readBy_10 : decode cX12_readBy 10 = .ok (.goto 202, 3) := by decide +kernel
theorem dX12_readBy_13 : decode cX12_readBy 13 = .ok (.iload_n 1, 1) := by decide +kernel
theorem dX12_readBy_14 : decode cX12_readBy 14 = .ok (.bipush 32, 2) := by decide +kernel
theorem dX12_readBy_16 : decode cX12_readBy 16 = .ok (.if_icmp .ge 11, 3) := by decide +kernel
theorem dX12_readBy_19 : decode cX12_readBy 19 = .ok (.aload_n 0, 1) := by decide +kernel
theorem dX12_readBy_20 : decode cX12_readBy 20 = .ok (.iload_n 2, 1) := by decide +kernel
theorem dX12_readBy_21 : decode cX12_readBy 21 = .ok (.invokevirtual 270, 3) := by decide +kernel
theorem dX12_readBy_24 : decode cX12_readBy 24 = .ok (.goto 188, 3) := by decide +kernel
theorem dX12_readBy_27 : decode cX12_readBy 27 = .ok (.aload_n 0, 1) := by decide +kernel
theorem dX12_readBy_28 : decode cX12_readBy 28 = .ok (.ldc_w 273, 3) := by decide +kernel
theorem dX12_readBy_31 : decode cX12_readBy 31 = .ok (.invokevirtual 217, 3) := by decide +kernel
theorem dX12_readBy_34 : decode cX12_readBy 34 = .ok (.ifCond .ne 12, 3) := by decide +kernel
theorem dX12_readBy_37 : decode cX12_readBy 37 = .ok (.aload_n 0, 1) := by decide +kernel
theorem dX12_readBy_38 : decode cX12_readBy 38 = .ok (.ldc 240, 2) := by decide +kernel
theorem dX12_readBy_40 : decode cX12_readBy 40 = .ok (.invokevirtual 217, 3) := by decide +kernel
theorem dX12_readBy_43 : decode cX12_readBy 43 = .ok (.ifCond .eq 10, 3) := by decide +kernel
theorem dX12_readBy_46 : decode cX12_readBy 46 = .ok (.aload_n 0, 1) := by decide +kernel
theorem dX12_readBy_47 : decode cX12_readBy 47 = .ok (.invokevirtual 275, 3) := by decide +kernel
theorem dX12_readBy_50 : decode cX12_readBy 50 = .ok (.goto 162, 3) := by decide +kernel
theorem dX12_readBy_53 : decode cX12_readBy 53 = .ok (.aload_n 0, 1) := by decide +kernel
theorem dX12_readBy_54 : decode cX12_readBy 54 = .ok (.ldc_w 278, 3) := by decide +kernel
theorem dX12_readBy_57 : decode cX12_readBy 57 = .ok (.invokevirtual 217, 3) := by decide +kernel
theorem dX12_readBy_60 : decode cX12_readBy 60 = .ok (.ifCond .eq 26, 3) := by decide +kernel
theorem dX12_readBy_63 : decode cX12_readBy 63 = .ok (.aload_n 0, 1) := by decide +kernel
theorem dX12_readBy_64 : decode cX12_readBy 64 = .ok (.iconst 3, 1) := by decide +kernel
theorem dX12_readBy_65 : decode cX12_readBy 65 = .ok (.iconst 5, 1) := by decide +kernel
theorem dX12_readBy_66 : decode cX12_readBy 66 = .ok (.invokevirtual 241, 3) := by decide +kernel
theorem dX12_readBy_69 : decode cX12_readBy 69 = .ok (.ifCond .eq 143, 3) := by decide +kernel
theorem dX12_readBy_72 : decode cX12_readBy 72 = .ok (.aload_n 0, 1) := by decide +kernel
theorem dX12_readBy_73 : decode cX12_readBy 73 = .ok (.getfield 27, 3) := by decide +kernel
theorem dX12_readBy_76 : decode cX12_readBy 76 = .ok (.bipush 19, 2) := by decide +kernel
theorem dX12_readBy_78 : decode cX12_readBy 78 = .ok (.dup2, 1) := by decide +kernel
theorem dX12_readBy_79 : decode cX12_readBy 79 = .ok (.iaload, 1) := by decide +kernel
theorem dX12_readBy_80 : decode cX12_readBy 80 = .ok (.iconst 1, 1) := by decide +kernel
theorem dX12_readBy_81 : decode cX12_readBy 81 = .ok (.iadd, 1) := by decide +kernel
theorem dX12_readBy_82 : decode cX12_readBy 82 = .ok (.iastore, 1) := by decide +kernel
theorem dX12_readBy_83 : decode cX12_readBy 83 = .ok (.goto 129, 3) := by decide +kernel
theorem dX12_readBy_86 : decode cX12_readBy 86 = .ok (.aload_n 0, 1) := by decide +kernel
theorem dX12_readBy_87 : decode cX12_readBy 87 = .ok (.ldc_w 280, 3) := by decide +kernel
theorem dX12_readBy_90 : decode cX12_readBy 90 = .ok (.invokevirtual 217, 3) := by decide +kernel
theorem dX12_readBy_93 : decode cX12_readBy 93 = .ok (.ifCond .eq 10, 3) := by decide +kernel
theorem dX12_readBy_96 : decode cX12_readBy 96 = .ok (.aload_n 0, 1) := by decide +kernel
theorem dX12_readBy_97 : decode cX12_readBy 97 = .ok (.invokevirtual 282, 3) := by decide +kernel
theorem dX12_readBy_100 : decode cX12_readBy 100 = .ok (.goto 112, 3) := by decide +kernel
theorem dX12_readBy_103 : decode cX12_readBy 103 = .ok (.aload_n 0, 1) := by decide +kernel
theorem dX12_readBy_104 : decode cX12_readBy 104 = .ok (.ldc_w 285, 3) := by decide +kernel
theorem dX12_readBy_107 : decode cX12_readBy 107 = .ok (.invokevirtual 217, 3) := by decide +kernel
theorem dX12_readBy_110 : decode cX12_readBy 110 = .ok (.ifCond .eq 80, 3) := by decide +kernel
theorem dX12_readBy_113 : decode cX12_readBy 113 = .ok (.aload_n 0, 1) := by decide +kernel
theorem dX12_readBy_114 : decode cX12_readBy 114 = .ok (.iconst 5, 1) := by decide +kernel
theorem dX12_readBy_115 : decode cX12_readBy 115 = .ok (.iconst 5, 1) := by decide +kernel
theorem dX12_readBy_116 : decode cX12_readBy 116 = .ok (.invokevirtual 241, 3) := by decide +kernel
theorem dX12_readBy_119 : decode cX12_readBy 119 = .ok (.ifCond .ne 4, 3) := by decide +kernel
theorem dX12_readBy_122 : decode cX12_readBy 122 = .ok (.return_, 1) := by decide +kernel
theorem dX12_readBy_123 : decode cX12_readBy 123 = .ok (.aload_n 0, 1) := by decide +kernel
theorem dX12_readBy_124 : decode cX12_readBy 124 = .ok (.iconst 0, 1) := by decide +kernel
theorem dX12_readBy_125 : decode cX12_readBy 125 = .ok (.aload_n 0, 1) := by decide +kernel
theorem dX12_readBy_126 : decode cX12_readBy 126 = .ok (.getfield 27, 3) := by decide +kernel
theorem dX12_readBy_129 : decode cX12_readBy 129 = .ok (.bipush 16, 2) := by decide +kernel
theorem dX12_readBy_131 : decode cX12_readBy 131 = .ok (.iaload, 1) := by decide +kernel
theorem dX12_readBy_132 : decode cX12_readBy 132 = .ok (.iconst 1, 1) := by decide +kernel
theorem dX12_readBy_133 : decode cX12_readBy 133 = .ok (.isub, 1) := by decide +kernel
theorem dX12_readBy_134 : decode cX12_readBy 134 = .ok (.invokevirtual 234, 3) := by decide +kernel
theorem dX12_readBy_137 : decode cX12_readBy 137 = .ok (.istore_n 3, 1) := by decide +kernel
theorem dX12_readBy_138 : decode cX12_readBy 138 = .ok (.aload_n 0, 1) := by decide +kernel
theorem dX12_readBy_139 : decode cX12_readBy 139 = .ok (.getfield 60, 3) := by decide +kernel
theorem dX12_readBy_142 : decode cX12_readBy 142 = .ok (.iconst 5, 1) := by decide +kernel
theorem dX12_readBy_143 : decode cX12_readBy 143 = .ok (.aload_n 0, 1) := by decide +kernel
theorem dX12_readBy_144 : decode cX12_readBy 144 = .ok (.getfield 27, 3) := by decide +kernel
theorem dX12_readBy_147 : decode cX12_readBy 147 = .ok (.bipush 21, 2) := by decide +kernel
theorem dX12_readBy_149 : decode cX12_readBy 149 = .ok (.iaload, 1) := by decide +kernel
theorem dX12_readBy_150 : decode cX12_readBy 150 = .ok (.iadd, 1) := by decide +kernel
theorem dX12_readBy_151 : decode cX12_readBy 151 = .ok (.aload_n 0, 1) := by decide +kernel
theorem dX12_readBy_152 : decode cX12_readBy 152 = .ok (.getfield 27, 3) := by decide +kernel
theorem dX12_readBy_155 : decode cX12_readBy 155 = .ok (.bipush 16, 2) := by decide +kernel
theorem dX12_readBy_157 : decode cX12_readBy 157 = .ok (.iaload, 1) := by decide +kernel
theorem dX12_readBy_158 : decode cX12_readBy 158 = .ok (.aload_n 0, 1) := by decide +kernel
theorem dX12_readBy_159 : decode cX12_readBy 159 = .ok (.iconst 0, 1) := by decide +kernel
theorem dX12_readBy_160 : decode cX12_readBy 160 = .ok (.aload_n 0, 1) := by decide +kernel
theorem dX12_readBy_161 : decode cX12_readBy 161 = .ok (.getfield 27, 3) := by decide +kernel
theorem dX12_readBy_164 : decode cX12_readBy 164 = .ok (.bipush 17, 2) := by decide +kernel
theorem dX12_readBy_166 : decode cX12_readBy 166 = .ok (.iaload, 1) := by decide +kernel
theorem dX12_readBy_167 : decode cX12_readBy 167 = .ok (.iconst 1, 1) := by decide +kernel
theorem dX12_readBy_168 : decode cX12_readBy 168 = .ok (.isub, 1) := by decide +kernel
theorem dX12_readBy_169 : decode cX12_readBy 169 = .ok (.invokevirtual 234, 3) := by decide +kernel
theorem dX12_readBy_172 : decode cX12_readBy 172 = .ok (.imul, 1) := by decide +kernel
theorem dX12_readBy_173 : decode cX12_readBy 173 = .ok (.iload_n 3, 1) := by decide +kernel
theorem dX12_readBy_174 : decode cX12_readBy 174 = .ok (.iadd, 1) := by decide +kernel
theorem dX12_readBy_175 : decode cX12_readBy 175 = .ok (.iastore, 1) := by decide +kernel
theorem dX12_readBy_176 : decode cX12_readBy 176 = .ok (.aload_n 0, 1) := by decide +kernel
theorem dX12_readBy_177 : decode cX12_readBy 177 = .ok (.getfield 27, 3) := by decide +kernel
theorem dX12_readBy_180 : decode cX12_readBy 180 = .ok (.bipush 21, 2) := by decide +kernel
theorem dX12_readBy_182 : decode cX12_readBy 182 = .ok (.dup2, 1) := by decide +kernel
theorem dX12_readBy_183 : decode cX12_readBy 183 = .ok (.iaload, 1) := by decide +kernel
theorem dX12_readBy_184 : decode cX12_readBy 184 = .ok (.iconst 1, 1) := by decide +kernel
theorem dX12_readBy_185 : decode cX12_readBy 185 = .ok (.iadd, 1) := by decide +kernel
theorem dX12_readBy_186 : decode cX12_readBy 186 = .ok (.iastore, 1) := by decide +kernel
theorem dX12_readBy_187 : decode cX12_readBy 187 = .ok (.goto 25, 3) := by decide +kernel
theorem dX12_readBy_190 : decode cX12_readBy 190 = .ok (.aload_n 0, 1) := by decide +kernel
theorem dX12_readBy_191 : decode cX12_readBy 191 = .ok (.ldc_w 286, 3) := by decide +kernel
theorem dX12_readBy_194 : decode cX12_readBy 194 = .ok (.invokevirtual 217, 3) := by decide +kernel
theorem dX12_readBy_197 : decode cX12_readBy 197 = .ok (.ifCond .eq 10, 3) := by decide +kernel
theorem dX12_readBy_200 : decode cX12_readBy 200 = .ok (.aload_n 0, 1) := by decide +kernel
theorem dX12_readBy_201 : decode cX12_readBy 201 = .ok (.invokevirtual 287, 3) := by decide +kernel
theorem dX12_readBy_204 : decode cX12_readBy 204 = .ok (.goto 8, 3) := by decide +kernel
theorem dX12_readBy_207 : decode cX12_readBy 207 = .ok (.aload_n 0, 1) := by decide +kernel
theorem dX12_readBy_208 : decode cX12_readBy 208 = .ok (.iconst 1, 1) := by decide +kernel
theorem dX12_readBy_209 : decode cX12_readBy 209 = .ok (.invokevirtual 224, 3) := by decide +kernel
theorem dX12_readBy_212 : decode cX12_readBy 212 = .ok (.return_, 1) := by decide +kernel
def f_X12_readBy (v1 : Int32) (v2 : Int32) (D : aD) : Option (aD) :=
  if v1 ≠ 32 then (if 32 ≤ v1 then (aBi (f_X12_is 6 D) (fun y_1 D_2 => if y_1 ≠ 0 then ((f_X12_readSort D_2).bind (fun D_3 => some D_3)) else (aBi (f_X12_is 7 D_2) (fun y_4 D_5 => if y_4 = 0 then (aBi (f_X12_is 8 D_5) (fun y_6 D_7 => if y_6 = 0 then (aBi (f_X12_is 9 D_7) (fun y_8 D_9 => if y_8 = 0 then (aBi (f_X12_is 11 D_9) (fun y_10 D_11 => if y_10 = 0 then (aBi (f_X12_is 12 D_11) (fun y_12 D_13 => if y_12 = 0 then ((f_X12_wrong 1 D_13).bind (fun D_14 => some D_14)) else ((f_X12_readMask D_13).bind (fun D_15 => some D_15)))) else (aBi (f_X12_begin 5 5 D_11) (fun y_16 D_17 => if y_16 ≠ 0 then (aGd (aIn 16 32) (aBi (f_X12_readNumber 0 ((gI D_17 91 (16 : Int32).toNatClampNeg) - 1) D_17) (fun y_19 D_20 => aGd (aIn 21 32) (aGd (aIn 16 32) (aGd (aIn 17 32) (aBi (f_X12_readNumber 0 ((gI D_20 91 (17 : Int32).toNatClampNeg) - 1) D_20) (fun y_24 D_25 => aGd (aIn (5 + (gI D_20 91 (21 : Int32).toNatClampNeg)) 10) (aLet (pI D_25 102 (5 + (gI D_20 91 (21 : Int32).toNatClampNeg)).toNatClampNeg (((gI D_20 91 (16 : Int32).toNatClampNeg) * y_24) + y_19)) (fun D_27 => aGd (aIn 21 32) (aGd (aIn 21 32) (aLet (pI D_27 91 (21 : Int32).toNatClampNeg ((gI D_27 91 (21 : Int32).toNatClampNeg) + 1)) (fun D_30 => some D_30)))))))))))) else (some D_17))))) else ((f_X12_readPlant D_9).bind (fun D_31 => some D_31)))) else (aBi (f_X12_begin 3 5 D_7) (fun y_32 D_33 => if y_32 = 0 then (some D_33) else (aGd (aIn 19 32) (aGd (aIn 19 32) (aLet (pI D_33 91 (19 : Int32).toNatClampNeg ((gI D_33 91 (19 : Int32).toNatClampNeg) + 1)) (fun D_36 => some D_36)))))))) else ((f_X12_readSort D_5).bind (fun D_37 => some D_37)))))) else ((f_X12_readOnce v2 D).bind (fun D_38 => some D_38))) else ((f_X12_readTown D).bind (fun D_39 => some D_39))
set_option maxRecDepth 100000 in
set_option maxHeartbeats 800000 in
theorem c_X12_readBy {G : aG} (hG : gOK G) {shp : List aSh} (hS : aShp shp) {fr : Option Nat} {v1 : Int32} {v2 : Int32} {D : aD} {K : aD → Prop} (h : Ok (f_X12_readBy v1 v2 D) K) : AC G (aRm 11 0 0) M_X12_readBy [.ref 88, .int v1, .int v2] fr shp D (aQv shp K) := by
  unfold f_X12_readBy at h
  refine AC.of (al := [some (.ref 88), some (.int v1), some (.int v2), none]) (r := 1) (by decide) (Nat.le_of_ble_eq_true rfl) rfl ?_
  refine aw_iload_n (n := 1) (i := 1) dX12_readBy_0 rfl rfl rfl ?_
  refine aw_bipush (n := 3) (v := 32) dX12_readBy_1 rfl (by decide) ?_
  refine aw_icmp_ne (n := 6) (tgt := 13) dX12_readBy_3 rfl (by decide) (fun c => ?_) (fun c => ?_)
  · replace h := Ok.ift h c
    refine aw_iload_n (n := 14) (i := 1) dX12_readBy_13 rfl rfl rfl ?_
    refine aw_bipush (n := 16) (v := 32) dX12_readBy_14 rfl (by decide) ?_
    refine aw_icmp_ge (n := 19) (tgt := 27) dX12_readBy_16 rfl (by decide) (fun c => ?_) (fun c => ?_)
    · replace h := Ok.ift h c
      refine aw_aload_n (n := 28) (i := 0) dX12_readBy_27 rfl rfl rfl ?_
      refine aw_ldcwS (M := M_X12_readBy) (n := 31) (sk := 10000 + 6) (gS_RX12_273 hG) dX12_readBy_28 rfl ?_
      refine aw_cVi (M := M_X12_readBy) (n := 34) (As := [.ref (10000 + 6)]) (rest := []) hG.1 lk_RX12_217 rfl rfl (sF_88 hS) (c_X12_is hG hS (h := Ok.bi h) (by decide)) (by decide) (Nat.le_of_ble_eq_true rfl) (by decide) (by decide) dX12_readBy_31 rfl (fun y_1 D_2 h => ?_)
      refine aw_if_ne (n := 37) (tgt := 46) dX12_readBy_34 rfl (by decide) (fun c => ?_) (fun c => ?_)
      · replace h := Ok.ift h c
        refine aw_aload_n (n := 47) (i := 0) dX12_readBy_46 rfl rfl rfl ?_
        refine aw_cVv (M := M_X12_readBy) (n := 50) (As := []) (rest := []) hG.1 lk_RX12_275 rfl rfl (sF_88 hS) (c_X12_readSort hG hS (h := Ok.bind h)) (by decide) (Nat.le_of_ble_eq_true rfl) (by decide) (by decide) dX12_readBy_47 rfl (fun D_3 h => ?_)
        refine aw_goto (tgt := 212) dX12_readBy_50 (by decide) ?_
        exact aw_vret rfl (by decide) (by decide) dX12_readBy_212 ⟨rfl, rfl, (Ok.dn h :)⟩
      · replace h := Ok.iffn h c
        refine aw_aload_n (n := 38) (i := 0) dX12_readBy_37 rfl rfl rfl ?_
        refine aw_ldcS (M := M_X12_readBy) (n := 40) (sk := 10000 + 7) (gS_RX12_240 hG) dX12_readBy_38 rfl ?_
        refine aw_cVi (M := M_X12_readBy) (n := 43) (As := [.ref (10000 + 7)]) (rest := []) hG.1 lk_RX12_217 rfl rfl (sF_88 hS) (c_X12_is hG hS (h := Ok.bi h) (by decide)) (by decide) (Nat.le_of_ble_eq_true rfl) (by decide) (by decide) dX12_readBy_40 rfl (fun y_4 D_5 h => ?_)
        refine aw_if_eq (n := 46) (tgt := 53) dX12_readBy_43 rfl (by decide) (fun c => ?_) (fun c => ?_)
        · replace h := Ok.ift h c
          refine aw_aload_n (n := 54) (i := 0) dX12_readBy_53 rfl rfl rfl ?_
          refine aw_ldcwS (M := M_X12_readBy) (n := 57) (sk := 10000 + 8) (gS_RX12_278 hG) dX12_readBy_54 rfl ?_
          refine aw_cVi (M := M_X12_readBy) (n := 60) (As := [.ref (10000 + 8)]) (rest := []) hG.1 lk_RX12_217 rfl rfl (sF_88 hS) (c_X12_is hG hS (h := Ok.bi h) (by decide)) (by decide) (Nat.le_of_ble_eq_true rfl) (by decide) (by decide) dX12_readBy_57 rfl (fun y_6 D_7 h => ?_)
          refine aw_if_eq (n := 63) (tgt := 86) dX12_readBy_60 rfl (by decide) (fun c => ?_) (fun c => ?_)
          · replace h := Ok.ift h c
            refine aw_aload_n (n := 87) (i := 0) dX12_readBy_86 rfl rfl rfl ?_
            refine aw_ldcwS (M := M_X12_readBy) (n := 90) (sk := 10000 + 9) (gS_RX12_280 hG) dX12_readBy_87 rfl ?_
            refine aw_cVi (M := M_X12_readBy) (n := 93) (As := [.ref (10000 + 9)]) (rest := []) hG.1 lk_RX12_217 rfl rfl (sF_88 hS) (c_X12_is hG hS (h := Ok.bi h) (by decide)) (by decide) (Nat.le_of_ble_eq_true rfl) (by decide) (by decide) dX12_readBy_90 rfl (fun y_8 D_9 h => ?_)
            refine aw_if_eq (n := 96) (tgt := 103) dX12_readBy_93 rfl (by decide) (fun c => ?_) (fun c => ?_)
            · replace h := Ok.ift h c
              refine aw_aload_n (n := 104) (i := 0) dX12_readBy_103 rfl rfl rfl ?_
              refine aw_ldcwS (M := M_X12_readBy) (n := 107) (sk := 10000 + 11) (gS_RX12_285 hG) dX12_readBy_104 rfl ?_
              refine aw_cVi (M := M_X12_readBy) (n := 110) (As := [.ref (10000 + 11)]) (rest := []) hG.1 lk_RX12_217 rfl rfl (sF_88 hS) (c_X12_is hG hS (h := Ok.bi h) (by decide)) (by decide) (Nat.le_of_ble_eq_true rfl) (by decide) (by decide) dX12_readBy_107 rfl (fun y_10 D_11 h => ?_)
              refine aw_if_eq (n := 113) (tgt := 190) dX12_readBy_110 rfl (by decide) (fun c => ?_) (fun c => ?_)
              · replace h := Ok.ift h c
                refine aw_aload_n (n := 191) (i := 0) dX12_readBy_190 rfl rfl rfl ?_
                refine aw_ldcwS (M := M_X12_readBy) (n := 194) (sk := 10000 + 12) (gS_RX12_286 hG) dX12_readBy_191 rfl ?_
                refine aw_cVi (M := M_X12_readBy) (n := 197) (As := [.ref (10000 + 12)]) (rest := []) hG.1 lk_RX12_217 rfl rfl (sF_88 hS) (c_X12_is hG hS (h := Ok.bi h) (by decide)) (by decide) (Nat.le_of_ble_eq_true rfl) (by decide) (by decide) dX12_readBy_194 rfl (fun y_12 D_13 h => ?_)
                refine aw_if_eq (n := 200) (tgt := 207) dX12_readBy_197 rfl (by decide) (fun c => ?_) (fun c => ?_)
                · replace h := Ok.ift h c
                  refine aw_aload_n (n := 208) (i := 0) dX12_readBy_207 rfl rfl rfl ?_
                  refine aw_iconst (n := 209) (v := 1) dX12_readBy_208 rfl (by decide) ?_
                  refine aw_cVv (M := M_X12_readBy) (n := 212) (As := [.int 1]) (rest := []) hG.1 lk_RX12_224 rfl rfl (sF_88 hS) (c_X12_wrong hG hS (h := Ok.bind h)) (by decide) (Nat.le_of_ble_eq_true rfl) (by decide) (by decide) dX12_readBy_209 rfl (fun D_14 h => ?_)
                  exact aw_vret rfl (by decide) (by decide) dX12_readBy_212 ⟨rfl, rfl, (Ok.dn h :)⟩
                · replace h := Ok.iff h c
                  refine aw_aload_n (n := 201) (i := 0) dX12_readBy_200 rfl rfl rfl ?_
                  refine aw_cVv (M := M_X12_readBy) (n := 204) (As := []) (rest := []) hG.1 lk_RX12_287 rfl rfl (sF_88 hS) (c_X12_readMask hG hS (h := Ok.bind h)) (by decide) (Nat.le_of_ble_eq_true rfl) (by decide) (by decide) dX12_readBy_201 rfl (fun D_15 h => ?_)
                  refine aw_goto (tgt := 212) dX12_readBy_204 (by decide) ?_
                  exact aw_vret rfl (by decide) (by decide) dX12_readBy_212 ⟨rfl, rfl, (Ok.dn h :)⟩
              · replace h := Ok.iff h c
                refine aw_aload_n (n := 114) (i := 0) dX12_readBy_113 rfl rfl rfl ?_
                refine aw_iconst (n := 115) (v := 5) dX12_readBy_114 rfl (by decide) ?_
                refine aw_iconst (n := 116) (v := 5) dX12_readBy_115 rfl (by decide) ?_
                refine aw_cVi (M := M_X12_readBy) (n := 119) (As := [.int 5, .int 5]) (rest := []) hG.1 lk_RX12_241 rfl rfl (sF_88 hS) (c_X12_begin hG hS (h := Ok.bi h)) (by decide) (Nat.le_of_ble_eq_true rfl) (by decide) (by decide) dX12_readBy_116 rfl (fun y_16 D_17 h => ?_)
                refine aw_if_ne (n := 122) (tgt := 123) dX12_readBy_119 rfl (by decide) (fun c => ?_) (fun c => ?_)
                · replace h := Ok.ift h c
                  refine aw_aload_n (n := 124) (i := 0) dX12_readBy_123 rfl rfl rfl ?_
                  refine aw_iconst (n := 125) (v := 0) dX12_readBy_124 rfl (by decide) ?_
                  refine aw_aload_n (n := 126) (i := 0) dX12_readBy_125 rfl rfl rfl ?_
                  refine aw_getR (n := 129) (j := 3) (r := 91) hG.1 fl_RX12_27 (sF_88 hS) rfl dX12_readBy_126 rfl ?_
                  refine aw_bipush (n := 131) (v := 16) dX12_readBy_129 rfl (by decide) ?_
                  obtain ⟨g_18, h⟩ := Ok.gd h
                  refine aw_iaload (n := 132) hG.1 (sF_91 hS) (aIn_in g_18) dX12_readBy_131 rfl ?_
                  refine aw_iconst (n := 133) (v := 1) dX12_readBy_132 rfl (by decide) ?_
                  refine aw_isub (n := 134) dX12_readBy_133 rfl ?_
                  refine aw_cVi (M := M_X12_readBy) (n := 137) (As := [.int 0, .int ((gI D_17 91 (16 : Int32).toNatClampNeg) - 1)]) (rest := []) hG.1 lk_RX12_234 rfl rfl (sF_88 hS) (c_X12_readNumber hG hS (h := Ok.bi h)) (by decide) (Nat.le_of_ble_eq_true rfl) (by decide) (by decide) dX12_readBy_134 rfl (fun y_19 D_20 h => ?_)
                  refine aw_istore_n (n := 138) (i := 3) (al' := [some (.ref 88), some (.int v1), some (.int v2), some (.int y_19)]) dX12_readBy_137 rfl rfl rfl (by decide) rfl ?_
                  refine aw_aload_n (n := 139) (i := 0) dX12_readBy_138 rfl rfl rfl ?_
                  refine aw_getR (n := 142) (j := 14) (r := 102) hG.1 fl_RX12_60 (sF_88 hS) rfl dX12_readBy_139 rfl ?_
                  refine aw_iconst (n := 143) (v := 5) dX12_readBy_142 rfl (by decide) ?_
                  refine aw_aload_n (n := 144) (i := 0) dX12_readBy_143 rfl rfl rfl ?_
                  refine aw_getR (n := 147) (j := 3) (r := 91) hG.1 fl_RX12_27 (sF_88 hS) rfl dX12_readBy_144 rfl ?_
                  refine aw_bipush (n := 149) (v := 21) dX12_readBy_147 rfl (by decide) ?_
                  obtain ⟨g_21, h⟩ := Ok.gd h
                  refine aw_iaload (n := 150) hG.1 (sF_91 hS) (aIn_in g_21) dX12_readBy_149 rfl ?_
                  refine aw_iadd (n := 151) dX12_readBy_150 rfl ?_
                  refine aw_aload_n (n := 152) (i := 0) dX12_readBy_151 rfl rfl rfl ?_
                  refine aw_getR (n := 155) (j := 3) (r := 91) hG.1 fl_RX12_27 (sF_88 hS) rfl dX12_readBy_152 rfl ?_
                  refine aw_bipush (n := 157) (v := 16) dX12_readBy_155 rfl (by decide) ?_
                  obtain ⟨g_22, h⟩ := Ok.gd h
                  refine aw_iaload (n := 158) hG.1 (sF_91 hS) (aIn_in g_22) dX12_readBy_157 rfl ?_
                  refine aw_aload_n (n := 159) (i := 0) dX12_readBy_158 rfl rfl rfl ?_
                  refine aw_iconst (n := 160) (v := 0) dX12_readBy_159 rfl (by decide) ?_
                  refine aw_aload_n (n := 161) (i := 0) dX12_readBy_160 rfl rfl rfl ?_
                  refine aw_getR (n := 164) (j := 3) (r := 91) hG.1 fl_RX12_27 (sF_88 hS) rfl dX12_readBy_161 rfl ?_
                  refine aw_bipush (n := 166) (v := 17) dX12_readBy_164 rfl (by decide) ?_
                  obtain ⟨g_23, h⟩ := Ok.gd h
                  refine aw_iaload (n := 167) hG.1 (sF_91 hS) (aIn_in g_23) dX12_readBy_166 rfl ?_
                  refine aw_iconst (n := 168) (v := 1) dX12_readBy_167 rfl (by decide) ?_
                  refine aw_isub (n := 169) dX12_readBy_168 rfl ?_
                  refine aw_cVi (M := M_X12_readBy) (n := 172) (As := [.int 0, .int ((gI D_20 91 (17 : Int32).toNatClampNeg) - 1)]) (rest := [.int (gI D_20 91 (16 : Int32).toNatClampNeg), .int (5 + (gI D_20 91 (21 : Int32).toNatClampNeg)), .ref 102]) hG.1 lk_RX12_234 rfl rfl (sF_88 hS) (c_X12_readNumber hG hS (h := Ok.bi h)) (by decide) (Nat.le_of_ble_eq_true rfl) (by decide) (by decide) dX12_readBy_169 rfl (fun y_24 D_25 h => ?_)
                  refine aw_imul (n := 173) dX12_readBy_172 rfl ?_
                  refine aw_iload_n (n := 174) (i := 3) dX12_readBy_173 rfl rfl rfl ?_
                  refine aw_iadd (n := 175) dX12_readBy_174 rfl ?_
                  obtain ⟨g_26, h⟩ := Ok.gd h
                  obtain ⟨D_27, e_D_27, h⟩ := Ok.let_ h
                  refine aw_iastore (n := 176) hG.1 (sF_102 hS) (aIn_in g_26) e_D_27 dX12_readBy_175 rfl ?_
                  refine aw_aload_n (n := 177) (i := 0) dX12_readBy_176 rfl rfl rfl ?_
                  refine aw_getR (n := 180) (j := 3) (r := 91) hG.1 fl_RX12_27 (sF_88 hS) rfl dX12_readBy_177 rfl ?_
                  refine aw_bipush (n := 182) (v := 21) dX12_readBy_180 rfl (by decide) ?_
                  refine aw_dup2 (n := 183) dX12_readBy_182 rfl rfl rfl ?_
                  obtain ⟨g_28, h⟩ := Ok.gd h
                  refine aw_iaload (n := 184) hG.1 (sF_91 hS) (aIn_in g_28) dX12_readBy_183 rfl ?_
                  refine aw_iconst (n := 185) (v := 1) dX12_readBy_184 rfl (by decide) ?_
                  refine aw_iadd (n := 186) dX12_readBy_185 rfl ?_
                  obtain ⟨g_29, h⟩ := Ok.gd h
                  obtain ⟨D_30, e_D_30, h⟩ := Ok.let_ h
                  refine aw_iastore (n := 187) hG.1 (sF_91 hS) (aIn_in g_29) e_D_30 dX12_readBy_186 rfl ?_
                  refine aw_goto (tgt := 212) dX12_readBy_187 (by decide) ?_
                  exact aw_vret rfl (by decide) (by decide) dX12_readBy_212 ⟨rfl, rfl, (Ok.dn h :)⟩
                · replace h := Ok.iffn h c
                  exact aw_vret rfl (by decide) (by decide) dX12_readBy_122 ⟨rfl, rfl, (Ok.dn h :)⟩
            · replace h := Ok.iff h c
              refine aw_aload_n (n := 97) (i := 0) dX12_readBy_96 rfl rfl rfl ?_
              refine aw_cVv (M := M_X12_readBy) (n := 100) (As := []) (rest := []) hG.1 lk_RX12_282 rfl rfl (sF_88 hS) (c_X12_readPlant hG hS (h := Ok.bind h)) (by decide) (Nat.le_of_ble_eq_true rfl) (by decide) (by decide) dX12_readBy_97 rfl (fun D_31 h => ?_)
              refine aw_goto (tgt := 212) dX12_readBy_100 (by decide) ?_
              exact aw_vret rfl (by decide) (by decide) dX12_readBy_212 ⟨rfl, rfl, (Ok.dn h :)⟩
          · replace h := Ok.iff h c
            refine aw_aload_n (n := 64) (i := 0) dX12_readBy_63 rfl rfl rfl ?_
            refine aw_iconst (n := 65) (v := 3) dX12_readBy_64 rfl (by decide) ?_
            refine aw_iconst (n := 66) (v := 5) dX12_readBy_65 rfl (by decide) ?_
            refine aw_cVi (M := M_X12_readBy) (n := 69) (As := [.int 3, .int 5]) (rest := []) hG.1 lk_RX12_241 rfl rfl (sF_88 hS) (c_X12_begin hG hS (h := Ok.bi h)) (by decide) (Nat.le_of_ble_eq_true rfl) (by decide) (by decide) dX12_readBy_66 rfl (fun y_32 D_33 h => ?_)
            refine aw_if_eq (n := 72) (tgt := 212) dX12_readBy_69 rfl (by decide) (fun c => ?_) (fun c => ?_)
            · replace h := Ok.ift h c
              exact aw_vret rfl (by decide) (by decide) dX12_readBy_212 ⟨rfl, rfl, (Ok.dn h :)⟩
            · replace h := Ok.iff h c
              refine aw_aload_n (n := 73) (i := 0) dX12_readBy_72 rfl rfl rfl ?_
              refine aw_getR (n := 76) (j := 3) (r := 91) hG.1 fl_RX12_27 (sF_88 hS) rfl dX12_readBy_73 rfl ?_
              refine aw_bipush (n := 78) (v := 19) dX12_readBy_76 rfl (by decide) ?_
              refine aw_dup2 (n := 79) dX12_readBy_78 rfl rfl rfl ?_
              obtain ⟨g_34, h⟩ := Ok.gd h
              refine aw_iaload (n := 80) hG.1 (sF_91 hS) (aIn_in g_34) dX12_readBy_79 rfl ?_
              refine aw_iconst (n := 81) (v := 1) dX12_readBy_80 rfl (by decide) ?_
              refine aw_iadd (n := 82) dX12_readBy_81 rfl ?_
              obtain ⟨g_35, h⟩ := Ok.gd h
              obtain ⟨D_36, e_D_36, h⟩ := Ok.let_ h
              refine aw_iastore (n := 83) hG.1 (sF_91 hS) (aIn_in g_35) e_D_36 dX12_readBy_82 rfl ?_
              refine aw_goto (tgt := 212) dX12_readBy_83 (by decide) ?_
              exact aw_vret rfl (by decide) (by decide) dX12_readBy_212 ⟨rfl, rfl, (Ok.dn h :)⟩
        · replace h := Ok.iff h c
          refine aw_aload_n (n := 47) (i := 0) dX12_readBy_46 rfl rfl rfl ?_
          refine aw_cVv (M := M_X12_readBy) (n := 50) (As := []) (rest := []) hG.1 lk_RX12_275 rfl rfl (sF_88 hS) (c_X12_readSort hG hS (h := Ok.bind h)) (by decide) (Nat.le_of_ble_eq_true rfl) (by decide) (by decide) dX12_readBy_47 rfl (fun D_37 h => ?_)
          refine aw_goto (tgt := 212) dX12_readBy_50 (by decide) ?_
          exact aw_vret rfl (by decide) (by decide) dX12_readBy_212 ⟨rfl, rfl, (Ok.dn h :)⟩
    · replace h := Ok.iff h c
      refine aw_aload_n (n := 20) (i := 0) dX12_readBy_19 rfl rfl rfl ?_
      refine aw_iload_n (n := 21) (i := 2) dX12_readBy_20 rfl rfl rfl ?_
      refine aw_cVv (M := M_X12_readBy) (n := 24) (As := [.int v2]) (rest := []) hG.1 lk_RX12_270 rfl rfl (sF_88 hS) (c_X12_readOnce hG hS (h := Ok.bind h)) (by decide) (Nat.le_of_ble_eq_true rfl) (by decide) (by decide) dX12_readBy_21 rfl (fun D_38 h => ?_)
      refine aw_goto (tgt := 212) dX12_readBy_24 (by decide) ?_
      exact aw_vret rfl (by decide) (by decide) dX12_readBy_212 ⟨rfl, rfl, (Ok.dn h :)⟩
  · replace h := Ok.iffn h c
    refine aw_aload_n (n := 7) (i := 0) dX12_readBy_6 rfl rfl rfl ?_
    refine aw_cVv (M := M_X12_readBy) (n := 10) (As := []) (rest := []) hG.1 lk_RX12_267 rfl rfl (sF_88 hS) (c_X12_readTown hG hS (h := Ok.bind h)) (by decide) (Nat.le_of_ble_eq_true rfl) (by decide) (by decide) dX12_readBy_7 rfl (fun D_39 h => ?_)
    refine aw_goto (tgt := 212) dX12_readBy_10 (by decide) ?_
    exact aw_vret rfl (by decide) (by decide) dX12_readBy_212 ⟨rfl, rfl, (Ok.dn h :)⟩
theorem dX12_readLine_0 : decode cX12_readLine 0 = .ok (.iconst (-1), 1) := by decide +kernel
theorem dX12_readLine_1 : decode cX12_readLine 1 = .ok (.istore_n 2, 1) := by decide +kernel
theorem dX12_readLine_2 : decode cX12_readLine 2 = .ok (.iconst 0, 1) := by decide +kernel
theorem dX12_readLine_3 : decode cX12_readLine 3 = .ok (.istore_n 3, 1) := by decide +kernel
theorem dX12_readLine_4 : decode cX12_readLine 4 = .ok (.iload_n 3, 1) := by decide +kernel
theorem dX12_readLine_5 : decode cX12_readLine 5 = .ok (.aload_n 0, 1) := by decide +kernel
theorem dX12_readLine_6 : decode cX12_readLine 6 = .ok (.getfield 17, 3) := by decide +kernel
theorem dX12_readLine_9 : decode cX12_readLine 9 = .ok (.arraylength, 1) := by decide +kernel
theorem dX12_readLine_10 : decode cX12_readLine 10 = .ok (.if_icmp .ge 24, 3) := by decide +kernel
theorem dX12_readLine_13 : decode cX12_readLine 13 = .ok (.aload_n 0, 1) := by decide +kernel
theorem dX12_readLine_14 : decode cX12_readLine 14 = .ok (.aload_n 0, 1) := by decide +kernel
theorem dX12_readLine_15 : decode cX12_readLine 15 = .ok (.getfield 17, 3) := by decide +kernel
theorem dX12_readLine_18 : decode cX12_readLine 18 = .ok (.iload_n 3, 1) := by decide +kernel
theorem dX12_readLine_19 : decode cX12_readLine 19 = .ok (.aaload, 1) := by decide +kernel
theorem dX12_readLine_20 : decode cX12_readLine 20 = .ok (.invokevirtual 217, 3) := by decide +kernel
theorem dX12_readLine_23 : decode cX12_readLine 23 = .ok (.ifCond .eq 5, 3) := by decide +kernel
theorem dX12_readLine_26 : decode cX12_readLine 26 = .ok (.iload_n 3, 1) := by decide +kernel
theorem dX12_readLine_27 : decode cX12_readLine 27 = .ok (.istore_n 2, 1) := by decide +kernel
theorem dX12_readLine_28 : decode cX12_readLine 28 = .ok (.iinc 3 1, 3) := by decide +kernel
theorem dX12_readLine_31 : decode cX12_readLine 31 = .ok (.goto (-27), 3) := by decide +kernel
theorem dX12_readLine_34 : decode cX12_readLine 34 = .ok (.iload_n 2, 1) := by decide +kernel
theorem dX12_readLine_35 : decode cX12_readLine 35 = .ok (.iconst (-1), 1) := by decide +kernel
theorem dX12_readLine_36 : decode cX12_readLine 36 = .ok (.if_icmp .eq 9, 3) := by decide +kernel
theorem dX12_readLine_39 : decode cX12_readLine 39 = .ok (.iconst 1, 1) := by decide +kernel
theorem dX12_readLine_40 : decode cX12_readLine 40 = .ok (.iload_n 2, 1) := by decide +kernel
theorem dX12_readLine_41 : decode cX12_readLine 41 = .ok (.ishl, 1) := by decide +kernel
theorem dX12_readLine_42 : decode cX12_readLine 42 = .ok (.goto 35, 3) := by decide +kernel
theorem dX12_readLine_45 : decode cX12_readLine 45 = .ok (.aload_n 0, 1) := by decide +kernel
theorem dX12_readLine_46 : decode cX12_readLine 46 = .ok (.ldc_w 259, 3) := by decide +kernel
theorem dX12_readLine_49 : decode cX12_readLine 49 = .ok (.invokevirtual 217, 3) := by decide +kernel
theorem dX12_readLine_52 : decode cX12_readLine 52 = .ok (.ifCond .eq 8, 3) := by decide +kernel
theorem dX12_readLine_55 : decode cX12_readLine 55 = .ok (.bipush 16, 2) := by decide +kernel
theorem dX12_readLine_57 : decode cX12_readLine 57 = .ok (.goto 20, 3) := by decide +kernel
theorem dX12_readLine_60 : decode cX12_readLine 60 = .ok (.aload_n 0, 1) := by decide +kernel
theorem dX12_readLine_61 : decode cX12_readLine 61 = .ok (.ldc_w 261, 3) := by decide +kernel
theorem dX12_readLine_64 : decode cX12_readLine 64 = .ok (.invokevirtual 217, 3) := by decide +kernel
theorem dX12_readLine_67 : decode cX12_readLine 67 = .ok (.ifCond .eq 8, 3) := by decide +kernel
theorem dX12_readLine_70 : decode cX12_readLine 70 = .ok (.bipush 32, 2) := by decide +kernel
theorem dX12_readLine_72 : decode cX12_readLine 72 = .ok (.goto 5, 3) := by decide +kernel
theorem dX12_readLine_75 : decode cX12_readLine 75 = .ok (.bipush 64, 2) := by decide +kernel
theorem dX12_readLine_77 : decode cX12_readLine 77 = .ok (.istore_n 3, 1) := by decide +kernel
theorem dX12_readLine_78 : decode cX12_readLine 78 = .ok (.iload_n 3, 1) := by decide +kernel
theorem dX12_readLine_79 : decode cX12_readLine 79 = .ok (.bipush 32, 2) := by decide +kernel
theorem dX12_readLine_81 : decode cX12_readLine 81 = .ok (.if_icmp .ne 7, 3) := by decide +kernel
theorem dX12_readLine_84 : decode cX12_readLine 84 = .ok (.iload_n 1, 1) := by decide +kernel
theorem dX12_readLine_85 : decode cX12_readLine 85 = .ok (.ifCond .ne 15, 3) := by decide +kernel
theorem dX12_readLine_88 : decode cX12_readLine 88 = .ok (.iload_n 3, 1) := by decide +kernel
theorem dX12_readLine_89 : decode cX12_readLine 89 = .ok (.bipush 32, 2) := by decide +kernel
theorem dX12_readLine_91 : decode cX12_readLine 91 = .ok (.if_icmp .ge 14, 3) := by decide +kernel
theorem dX12_readLine_94 : decode cX12_readLine 94 = .ok (.iload_n 1, 1) := by decide +kernel
theorem dX12_readLine_95 : decode cX12_readLine 95 = .ok (.iload_n 3, 1) := by decide +kernel
theorem dX12_readLine_96 : decode cX12_readLine 96 = .ok (.iand, 1) := by decide +kernel
theorem dX12_readLine_97 : decode cX12_readLine 97 = .ok (.ifCond .eq 8, 3) := by decide +kernel
theorem dX12_readLine_100 : decode cX12_readLine 100 = .ok (.aload_n 0, 1) := by decide +kernel
theorem dX12_readLine_101 : decode cX12_readLine 101 = .ok (.iconst 4, 1) := by decide +kernel
theorem dX12_readLine_102 : decode cX12_readLine 102 = .ok (.invokevirtual 224, 3) := by decide +kernel
theorem dX12_readLine_105 : decode cX12_readLine 105 = .ok (.aload_n 0, 1) := by decide +kernel
theorem dX12_readLine_106 : decode cX12_readLine 106 = .ok (.getfield 203, 3) := by decide +kernel
theorem dX12_readLine_109 : decode cX12_readLine 109 = .ok (.ifCond .ne 9, 3) := by decide +kernel
theorem dX12_readLine_112 : decode cX12_readLine 112 = .ok (.aload_n 0, 1) := by decide +kernel
theorem dX12_readLine_113 : decode cX12_readLine 113 = .ok (.iload_n 3, 1) := by decide +kernel
theorem dX12_readLine_114 : decode cX12_readLine 114 = .ok (.iload_n 2, 1) := by decide +kernel
theorem dX12_readLine_115 : decode cX12_readLine 115 = .ok (.invokevirtual 263, 3) := by decide +kernel
theorem dX12_readLine_118 : decode cX12_readLine 118 = .ok (.aload_n 0, 1) := by decide +kernel
theorem dX12_readLine_119 : decode cX12_readLine 119 = .ok (.getfield 203, 3) := by decide +kernel
theorem dX12_readLine_122 : decode cX12_readLine 122 = .ok (.ifCond .ne 17, 3) := by decide +kernel
theorem dX12_readLine_125 : decode cX12_readLine 125 = .ok (.aload_n 0, 1) := by decide +kernel
theorem dX12_readLine_126 : decode cX12_readLine 126 = .ok (.bipush 59, 2) := by decide +kernel
theorem dX12_readLine_128 : decode cX12_readLine 128 = .ok (.invokevirtual 231, 3) := by decide +kernel
theorem dX12_readLine_131 : decode cX12_readLine 131 = .ok (.ifCond .ne 8, 3) := by decide +kernel
theorem dX12_readLine_134 : decode cX12_readLine 134 = .ok (.aload_n 0, 1) := by decide +kernel
theorem dX12_readLine_135 : decode cX12_readLine 135 = .ok (.iconst 1, 1) := by decide +kernel
theorem dX12_readLine_136 : decode cX12_readLine 136 = .ok (.invokevirtual 224, 3) := by decide +kernel
theorem dX12_readLine_139 : decode cX12_readLine 139 = .ok (.aload_n 0, 1) := by decide +kernel
theorem dX12_readLine_140 : decode cX12_readLine 140 = .ok (.getfield 203, 3) := by decide +kernel
theorem dX12_readLine_143 : decode cX12_readLine 143 = .ok (.ifCond .ne 7, 3) := by decide +kernel
theorem dX12_readLine_146 : decode cX12_readLine 146 = .ok (.aload_n 0, 1) := by decide +kernel
theorem dX12_readLine_147 : decode cX12_readLine 147 = .ok (.invokevirtual 221, 3) := by decide +kernel
theorem dX12_readLine_150 : decode cX12_readLine 150 = .ok (.iload_n 1, 1) := by decide +kernel
theorem dX12_readLine_151 : decode cX12_readLine 151 = .ok (.iload_n 3, 1) := by decide +kernel
theorem dX12_readLine_152 : decode cX12_readLine 152 = .ok (.ior, 1) := by decide +kernel
theorem dX12_readLine_153 : decode cX12_readLine 153 = .ok (.ireturn, 1) := by decide +kernel
def J_X12_readLine_139 (v1 : Int32) (v3 : Int32) (D : aD) : Option (Int32 × aD) :=
  if gI D 88 25 ≠ 0 then (some (v1 ||| v3, D)) else ((f_X12_stepOn D).bind (fun D_5 => some (v1 ||| v3, D_5)))
def J_X12_readLine_118 (v1 : Int32) (v3 : Int32) (D : aD) : Option (Int32 × aD) :=
  if gI D 88 25 ≠ 0 then (J_X12_readLine_139 v1 v3 D) else (aBi (f_X12_isMarked 59 D) (fun y_6 D_7 => if y_6 ≠ 0 then (J_X12_readLine_139 v1 v3 D_7) else ((f_X12_wrong 1 D_7).bind (fun D_8 => J_X12_readLine_139 v1 v3 D_8))))
def J_X12_readLine_105 (v1 : Int32) (v2 : Int32) (v3 : Int32) (D : aD) : Option (Int32 × aD) :=
  if gI D 88 25 ≠ 0 then (J_X12_readLine_118 v1 v3 D) else ((f_X12_readBy v3 v2 D).bind (fun D_9 => J_X12_readLine_118 v1 v3 D_9))
def J_X12_readLine_100 (v1 : Int32) (v2 : Int32) (v3 : Int32) (D : aD) : Option (Int32 × aD) :=
  (f_X12_wrong 4 D).bind (fun D_10 => J_X12_readLine_105 v1 v2 v3 D_10)
def J_X12_readLine_88 (v1 : Int32) (v2 : Int32) (v3 : Int32) (D : aD) : Option (Int32 × aD) :=
  if 32 ≤ v3 then (J_X12_readLine_105 v1 v2 v3 D) else (if v1 &&& v3 = 0 then (J_X12_readLine_105 v1 v2 v3 D) else (J_X12_readLine_100 v1 v2 v3 D))
def J_X12_readLine_77 (v1 : Int32) (v2 : Int32) (t0 : Int32) (D : aD) : Option (Int32 × aD) :=
  if t0 ≠ 32 then (J_X12_readLine_88 v1 v2 t0 D) else (if v1 ≠ 0 then (J_X12_readLine_100 v1 v2 t0 D) else (J_X12_readLine_88 v1 v2 t0 D))
def J_X12_readLine_34 (v1 : Int32) (v2 : Int32) (D : aD) : Option (Int32 × aD) :=
  if v2 = (-1) then (aBi (f_X12_is 4 D) (fun y_1 D_2 => if y_1 = 0 then (aBi (f_X12_is 5 D_2) (fun y_3 D_4 => if y_3 = 0 then (J_X12_readLine_77 v1 v2 64 D_4) else (J_X12_readLine_77 v1 v2 32 D_4))) else (J_X12_readLine_77 v1 v2 16 D_2))) else (J_X12_readLine_77 v1 v2 ((1 : Int32) <<< (v2 &&& 31)) D)
def B_X12_readLine_4 (v1 : Int32) (v2 : Int32) (v3 : Int32) (D : aD) : Option ((Int32 × Int32 × aD) ⊕ ((Int32 × aD))) :=
  if 4 ≤ v3 then (some (.inr (v2, D))) else (aGd (aIn v3 4) (aBi (f_X12_is (v3.toNatClampNeg) D) (fun y_12 D_13 => if y_12 = 0 then (aLet (v3 + 1) (fun v3_14 => some (.inl (v2, v3_14, D_13)))) else (aLet (v3 + 1) (fun v3_15 => some (.inl (v3, v3_15, D_13)))))))
def J_X12_readLine_4 (v1 : Int32) (v2 : Int32) (v3 : Int32) (D : aD) : Option (Int32 × aD) :=
  (aLp (fun s => B_X12_readLine_4 v1 s.1 s.2.1 s.2.2) (v2, v3, D)).bind (fun r => J_X12_readLine_34 v1 (r.1) r.2)
def f_X12_readLine (v1 : Int32) (D : aD) : Option (Int32 × aD) :=
  J_X12_readLine_4 v1 (-1) 0 D
set_option maxRecDepth 100000 in
set_option maxHeartbeats 800000 in
theorem c_X12_readLine {G : aG} (hG : gOK G) {shp : List aSh} (hS : aShp shp) {fr : Option Nat} {v1 : Int32} {D : aD} {K : Int32 → aD → Prop} (h : Ok2 (f_X12_readLine v1 D) K) : AC G (aRm 12 0 0) M_X12_readLine [.ref 88, .int v1] fr shp D (aQi shp K) := by
  replace h := Ok2.ok h
  unfold f_X12_readLine at h
  refine AC.of (al := [some (.ref 88), some (.int v1), none, none]) (r := 2) (by decide) (Nat.le_of_ble_eq_true rfl) rfl ?_
  have hJ_139 : ∀ (v1 : Int32) (v3 : Int32) (D : aD), Ok (J_X12_readLine_139 v1 v3 D) (fun r => K r.1 r.2) → AW G (aRm 12 0 0) M_X12_readLine fr 0 0 139 [some (.ref 88), some (.int v1), none, some (.int v3)] [] shp D (aQi shp K) := by
    intro v1 v3 D h
    unfold J_X12_readLine_139 at h
    refine aw_aload_n (n := 140) (i := 0) dX12_readLine_139 rfl rfl rfl ?_
    refine aw_getI (n := 143) (j := 25) hG.1 fl_RX12_203 (sF_88 hS) rfl dX12_readLine_140 rfl ?_
    refine aw_if_ne (n := 146) (tgt := 150) dX12_readLine_143 rfl (by decide) (fun c => ?_) (fun c => ?_)
    · replace h := Ok.ift h c
      refine aw_iload_n (n := 151) (i := 1) dX12_readLine_150 rfl rfl rfl ?_
      refine aw_iload_n (n := 152) (i := 3) dX12_readLine_151 rfl rfl rfl ?_
      refine aw_ior (n := 153) dX12_readLine_152 rfl ?_
      exact aw_iret rfl (by decide) (by decide) dX12_readLine_153 ⟨_, rfl, rfl, (Ok.dn h :)⟩
    · replace h := Ok.iffn h c
      refine aw_aload_n (n := 147) (i := 0) dX12_readLine_146 rfl rfl rfl ?_
      refine aw_cVv (M := M_X12_readLine) (n := 150) (As := []) (rest := []) hG.1 lk_RX12_221 rfl rfl (sF_88 hS) (c_X12_stepOn hG hS (h := Ok.bind h)) (by decide) (Nat.le_of_ble_eq_true rfl) (by decide) (by decide) dX12_readLine_147 rfl (fun D_5 h => ?_)
      refine aw_iload_n (n := 151) (i := 1) dX12_readLine_150 rfl rfl rfl ?_
      refine aw_iload_n (n := 152) (i := 3) dX12_readLine_151 rfl rfl rfl ?_
      refine aw_ior (n := 153) dX12_readLine_152 rfl ?_
      exact aw_iret rfl (by decide) (by decide) dX12_readLine_153 ⟨_, rfl, rfl, (Ok.dn h :)⟩
  have hJ_118 : ∀ (v1 : Int32) (v3 : Int32) (D : aD), Ok (J_X12_readLine_118 v1 v3 D) (fun r => K r.1 r.2) → AW G (aRm 12 0 0) M_X12_readLine fr 0 0 118 [some (.ref 88), some (.int v1), none, some (.int v3)] [] shp D (aQi shp K) := by
    intro v1 v3 D h
    unfold J_X12_readLine_118 at h
    refine aw_aload_n (n := 119) (i := 0) dX12_readLine_118 rfl rfl rfl ?_
    refine aw_getI (n := 122) (j := 25) hG.1 fl_RX12_203 (sF_88 hS) rfl dX12_readLine_119 rfl ?_
    refine aw_if_ne (n := 125) (tgt := 139) dX12_readLine_122 rfl (by decide) (fun c => ?_) (fun c => ?_)
    · replace h := Ok.ift h c
      exact aw_le' (hJ_139 v1 v3 D h) ⟨rfl, ⟨rfl, ⟨rfl, trivial⟩⟩⟩
    · replace h := Ok.iffn h c
      refine aw_aload_n (n := 126) (i := 0) dX12_readLine_125 rfl rfl rfl ?_
      refine aw_bipush (n := 128) (v := 59) dX12_readLine_126 rfl (by decide) ?_
      refine aw_cVi (M := M_X12_readLine) (n := 131) (As := [.int 59]) (rest := []) hG.1 lk_RX12_231 rfl rfl (sF_88 hS) (c_X12_isMarked hG hS (h := Ok.bi h)) (by decide) (Nat.le_of_ble_eq_true rfl) (by decide) (by decide) dX12_readLine_128 rfl (fun y_6 D_7 h => ?_)
      refine aw_if_ne (n := 134) (tgt := 139) dX12_readLine_131 rfl (by decide) (fun c => ?_) (fun c => ?_)
      · replace h := Ok.ift h c
        exact aw_le' (hJ_139 v1 v3 D_7 h) ⟨rfl, ⟨rfl, ⟨rfl, trivial⟩⟩⟩
      · replace h := Ok.iffn h c
        refine aw_aload_n (n := 135) (i := 0) dX12_readLine_134 rfl rfl rfl ?_
        refine aw_iconst (n := 136) (v := 1) dX12_readLine_135 rfl (by decide) ?_
        refine aw_cVv (M := M_X12_readLine) (n := 139) (As := [.int 1]) (rest := []) hG.1 lk_RX12_224 rfl rfl (sF_88 hS) (c_X12_wrong hG hS (h := Ok.bind h)) (by decide) (Nat.le_of_ble_eq_true rfl) (by decide) (by decide) dX12_readLine_136 rfl (fun D_8 h => ?_)
        exact aw_le' (hJ_139 v1 v3 D_8 h) ⟨rfl, ⟨rfl, ⟨rfl, trivial⟩⟩⟩
  have hJ_105 : ∀ (v1 : Int32) (v2 : Int32) (v3 : Int32) (D : aD), Ok (J_X12_readLine_105 v1 v2 v3 D) (fun r => K r.1 r.2) → AW G (aRm 12 0 0) M_X12_readLine fr 0 0 105 [some (.ref 88), some (.int v1), some (.int v2), some (.int v3)] [] shp D (aQi shp K) := by
    intro v1 v2 v3 D h
    unfold J_X12_readLine_105 at h
    refine aw_aload_n (n := 106) (i := 0) dX12_readLine_105 rfl rfl rfl ?_
    refine aw_getI (n := 109) (j := 25) hG.1 fl_RX12_203 (sF_88 hS) rfl dX12_readLine_106 rfl ?_
    refine aw_if_ne (n := 112) (tgt := 118) dX12_readLine_109 rfl (by decide) (fun c => ?_) (fun c => ?_)
    · replace h := Ok.ift h c
      exact aw_le' (hJ_118 v1 v3 D h) ⟨rfl, ⟨rfl, ⟨rfl, trivial⟩⟩⟩
    · replace h := Ok.iffn h c
      refine aw_aload_n (n := 113) (i := 0) dX12_readLine_112 rfl rfl rfl ?_
      refine aw_iload_n (n := 114) (i := 3) dX12_readLine_113 rfl rfl rfl ?_
      refine aw_iload_n (n := 115) (i := 2) dX12_readLine_114 rfl rfl rfl ?_
      refine aw_cVv (M := M_X12_readLine) (n := 118) (As := [.int v3, .int v2]) (rest := []) hG.1 lk_RX12_263 rfl rfl (sF_88 hS) (c_X12_readBy hG hS (h := Ok.bind h)) (by decide) (Nat.le_of_ble_eq_true rfl) (by decide) (by decide) dX12_readLine_115 rfl (fun D_9 h => ?_)
      exact aw_le' (hJ_118 v1 v3 D_9 h) ⟨rfl, ⟨rfl, ⟨rfl, trivial⟩⟩⟩
  have hJ_100 : ∀ (v1 : Int32) (v2 : Int32) (v3 : Int32) (D : aD), Ok (J_X12_readLine_100 v1 v2 v3 D) (fun r => K r.1 r.2) → AW G (aRm 12 0 0) M_X12_readLine fr 0 0 100 [some (.ref 88), some (.int v1), some (.int v2), some (.int v3)] [] shp D (aQi shp K) := by
    intro v1 v2 v3 D h
    unfold J_X12_readLine_100 at h
    refine aw_aload_n (n := 101) (i := 0) dX12_readLine_100 rfl rfl rfl ?_
    refine aw_iconst (n := 102) (v := 4) dX12_readLine_101 rfl (by decide) ?_
    refine aw_cVv (M := M_X12_readLine) (n := 105) (As := [.int 4]) (rest := []) hG.1 lk_RX12_224 rfl rfl (sF_88 hS) (c_X12_wrong hG hS (h := Ok.bind h)) (by decide) (Nat.le_of_ble_eq_true rfl) (by decide) (by decide) dX12_readLine_102 rfl (fun D_10 h => ?_)
    exact aw_le' (hJ_105 v1 v2 v3 D_10 h) ⟨rfl, ⟨rfl, ⟨rfl, ⟨rfl, trivial⟩⟩⟩⟩
  have hJ_88 : ∀ (v1 : Int32) (v2 : Int32) (v3 : Int32) (D : aD), Ok (J_X12_readLine_88 v1 v2 v3 D) (fun r => K r.1 r.2) → AW G (aRm 12 0 0) M_X12_readLine fr 0 0 88 [some (.ref 88), some (.int v1), some (.int v2), some (.int v3)] [] shp D (aQi shp K) := by
    intro v1 v2 v3 D h
    unfold J_X12_readLine_88 at h
    refine aw_iload_n (n := 89) (i := 3) dX12_readLine_88 rfl rfl rfl ?_
    refine aw_bipush (n := 91) (v := 32) dX12_readLine_89 rfl (by decide) ?_
    refine aw_icmp_ge (n := 94) (tgt := 105) dX12_readLine_91 rfl (by decide) (fun c => ?_) (fun c => ?_)
    · replace h := Ok.ift h c
      exact aw_le' (hJ_105 v1 v2 v3 D h) ⟨rfl, ⟨rfl, ⟨rfl, ⟨rfl, trivial⟩⟩⟩⟩
    · replace h := Ok.iff h c
      refine aw_iload_n (n := 95) (i := 1) dX12_readLine_94 rfl rfl rfl ?_
      refine aw_iload_n (n := 96) (i := 3) dX12_readLine_95 rfl rfl rfl ?_
      refine aw_iand (n := 97) dX12_readLine_96 rfl ?_
      refine aw_if_eq (n := 100) (tgt := 105) dX12_readLine_97 rfl (by decide) (fun c => ?_) (fun c => ?_)
      · replace h := Ok.ift h c
        exact aw_le' (hJ_105 v1 v2 v3 D h) ⟨rfl, ⟨rfl, ⟨rfl, ⟨rfl, trivial⟩⟩⟩⟩
      · replace h := Ok.iff h c
        exact aw_le' (hJ_100 v1 v2 v3 D h) ⟨rfl, ⟨rfl, ⟨rfl, ⟨rfl, trivial⟩⟩⟩⟩
  have hJ_77 : ∀ (v1 : Int32) (v2 : Int32) (t0 : Int32) (D : aD), Ok (J_X12_readLine_77 v1 v2 t0 D) (fun r => K r.1 r.2) → AW G (aRm 12 0 0) M_X12_readLine fr 0 0 77 [some (.ref 88), some (.int v1), some (.int v2), none] [.int t0] shp D (aQi shp K) := by
    intro v1 v2 t0 D h
    unfold J_X12_readLine_77 at h
    refine aw_istore_n (n := 78) (i := 3) (al' := [some (.ref 88), some (.int v1), some (.int v2), some (.int t0)]) dX12_readLine_77 rfl rfl rfl (by decide) rfl ?_
    refine aw_iload_n (n := 79) (i := 3) dX12_readLine_78 rfl rfl rfl ?_
    refine aw_bipush (n := 81) (v := 32) dX12_readLine_79 rfl (by decide) ?_
    refine aw_icmp_ne (n := 84) (tgt := 88) dX12_readLine_81 rfl (by decide) (fun c => ?_) (fun c => ?_)
    · replace h := Ok.ift h c
      exact aw_le' (hJ_88 v1 v2 t0 D h) ⟨rfl, ⟨rfl, ⟨rfl, ⟨rfl, trivial⟩⟩⟩⟩
    · replace h := Ok.iffn h c
      refine aw_iload_n (n := 85) (i := 1) dX12_readLine_84 rfl rfl rfl ?_
      refine aw_if_ne (n := 88) (tgt := 100) dX12_readLine_85 rfl (by decide) (fun c => ?_) (fun c => ?_)
      · replace h := Ok.ift h c
        exact aw_le' (hJ_100 v1 v2 t0 D h) ⟨rfl, ⟨rfl, ⟨rfl, ⟨rfl, trivial⟩⟩⟩⟩
      · replace h := Ok.iffn h c
        exact aw_le' (hJ_88 v1 v2 t0 D h) ⟨rfl, ⟨rfl, ⟨rfl, ⟨rfl, trivial⟩⟩⟩⟩
  have hJ_34 : ∀ (v1 : Int32) (v2 : Int32) (D : aD), Ok (J_X12_readLine_34 v1 v2 D) (fun r => K r.1 r.2) → AW G (aRm 12 0 0) M_X12_readLine fr 0 0 34 [some (.ref 88), some (.int v1), some (.int v2), none] [] shp D (aQi shp K) := by
    intro v1 v2 D h
    unfold J_X12_readLine_34 at h
    refine aw_iload_n (n := 35) (i := 2) dX12_readLine_34 rfl rfl rfl ?_
    refine aw_iconst (n := 36) (v := (-1)) dX12_readLine_35 rfl (by decide) ?_
    refine aw_icmp_eq (n := 39) (tgt := 45) dX12_readLine_36 rfl (by decide) (fun c => ?_) (fun c => ?_)
    · replace h := Ok.ift h c
      refine aw_aload_n (n := 46) (i := 0) dX12_readLine_45 rfl rfl rfl ?_
      refine aw_ldcwS (M := M_X12_readLine) (n := 49) (sk := 10000 + 4) (gS_RX12_259 hG) dX12_readLine_46 rfl ?_
      refine aw_cVi (M := M_X12_readLine) (n := 52) (As := [.ref (10000 + 4)]) (rest := []) hG.1 lk_RX12_217 rfl rfl (sF_88 hS) (c_X12_is hG hS (h := Ok.bi h) (by decide)) (by decide) (Nat.le_of_ble_eq_true rfl) (by decide) (by decide) dX12_readLine_49 rfl (fun y_1 D_2 h => ?_)
      refine aw_if_eq (n := 55) (tgt := 60) dX12_readLine_52 rfl (by decide) (fun c => ?_) (fun c => ?_)
      · replace h := Ok.ift h c
        refine aw_aload_n (n := 61) (i := 0) dX12_readLine_60 rfl rfl rfl ?_
        refine aw_ldcwS (M := M_X12_readLine) (n := 64) (sk := 10000 + 5) (gS_RX12_261 hG) dX12_readLine_61 rfl ?_
        refine aw_cVi (M := M_X12_readLine) (n := 67) (As := [.ref (10000 + 5)]) (rest := []) hG.1 lk_RX12_217 rfl rfl (sF_88 hS) (c_X12_is hG hS (h := Ok.bi h) (by decide)) (by decide) (Nat.le_of_ble_eq_true rfl) (by decide) (by decide) dX12_readLine_64 rfl (fun y_3 D_4 h => ?_)
        refine aw_if_eq (n := 70) (tgt := 75) dX12_readLine_67 rfl (by decide) (fun c => ?_) (fun c => ?_)
        · replace h := Ok.ift h c
          refine aw_bipush (n := 77) (v := 64) dX12_readLine_75 rfl (by decide) ?_
          exact aw_le' (hJ_77 v1 v2 64 D_4 h) ⟨rfl, ⟨rfl, ⟨rfl, trivial⟩⟩⟩
        · replace h := Ok.iff h c
          refine aw_bipush (n := 72) (v := 32) dX12_readLine_70 rfl (by decide) ?_
          refine aw_goto (tgt := 77) dX12_readLine_72 (by decide) ?_
          exact aw_le' (hJ_77 v1 v2 32 D_4 h) ⟨rfl, ⟨rfl, ⟨rfl, trivial⟩⟩⟩
      · replace h := Ok.iff h c
        refine aw_bipush (n := 57) (v := 16) dX12_readLine_55 rfl (by decide) ?_
        refine aw_goto (tgt := 77) dX12_readLine_57 (by decide) ?_
        exact aw_le' (hJ_77 v1 v2 16 D_2 h) ⟨rfl, ⟨rfl, ⟨rfl, trivial⟩⟩⟩
    · replace h := Ok.iff h c
      refine aw_iconst (n := 40) (v := 1) dX12_readLine_39 rfl (by decide) ?_
      refine aw_iload_n (n := 41) (i := 2) dX12_readLine_40 rfl rfl rfl ?_
      refine aw_ishl (n := 42) dX12_readLine_41 rfl ?_
      refine aw_goto (tgt := 77) dX12_readLine_42 (by decide) ?_
      exact aw_le' (hJ_77 v1 v2 ((1 : Int32) <<< (v2 &&& 31)) D h) ⟨rfl, ⟨rfl, ⟨rfl, trivial⟩⟩⟩
  have hJ_4 : ∀ (v1 : Int32) (v2 : Int32) (v3 : Int32) (D : aD), Ok (J_X12_readLine_4 v1 v2 v3 D) (fun r => K r.1 r.2) → AW G (aRm 12 0 0) M_X12_readLine fr 0 0 4 [some (.ref 88), some (.int v1), some (.int v2), some (.int v3)] [] shp D (aQi shp K) := by
    intro v1 v2 v3 D h
    unfold J_X12_readLine_4 at h
    refine Ok.lp (P := fun s => AW G (aRm 12 0 0) M_X12_readLine fr 0 0 4 [some (.ref 88), some (.int v1), some (.int (s.1)), some (.int (s.2.1))] [] shp s.2.2 (aQi shp K)) (fun s Kb4 hL4 hR4 h => ?_) (v2, v3, D) (Ok.bind h)
    obtain ⟨v2, v3, D⟩ := s
    replace h : Ok (B_X12_readLine_4 v1 v2 v3 D) Kb4 := h
    unfold B_X12_readLine_4 at h
    refine aw_iload_n (n := 5) (i := 3) dX12_readLine_4 rfl rfl rfl ?_
    refine aw_aload_n (n := 6) (i := 0) dX12_readLine_5 rfl rfl rfl ?_
    refine aw_getR (n := 9) (j := 0) (r := 89) hG.1 fl_RX12_17 (sF_88 hS) rfl dX12_readLine_6 rfl ?_
    refine aw_alen (n := 10) (t := 5) (v := 4) hG.1 rfl (sF_89 hS) (by decide) dX12_readLine_9 rfl ?_
    refine aw_icmp_ge (n := 13) (tgt := 34) dX12_readLine_10 rfl (by decide) (fun c => ?_) (fun c => ?_)
    · replace h := Ok.ift h c
      exact aw_le' (hJ_34 v1 v2 D (hR4 (v2, D) (Ok.dn h :))) ⟨rfl, ⟨rfl, ⟨rfl, trivial⟩⟩⟩
    · replace h := Ok.iff h c
      refine aw_aload_n (n := 14) (i := 0) dX12_readLine_13 rfl rfl rfl ?_
      refine aw_aload_n (n := 15) (i := 0) dX12_readLine_14 rfl rfl rfl ?_
      refine aw_getR (n := 18) (j := 0) (r := 89) hG.1 fl_RX12_17 (sF_88 hS) rfl dX12_readLine_15 rfl ?_
      refine aw_iload_n (n := 19) (i := 3) dX12_readLine_18 rfl rfl rfl ?_
      obtain ⟨g_11, h⟩ := Ok.gd h
      refine aw_aaload (n := 20) (t := 5) (r := (10000 + v3.toNatClampNeg)) hG.1 (by decide) rfl (sF_89 hS) (aIn_in g_11) (rs_89 (aIn_lt g_11)) dX12_readLine_19 rfl ?_
      refine aw_cVi (M := M_X12_readLine) (n := 23) (As := [.ref (10000 + v3.toNatClampNeg)]) (rest := []) hG.1 lk_RX12_217 rfl rfl (sF_88 hS) (c_X12_is hG hS (h := Ok.bi h) (Nat.lt_of_lt_of_le (aIn_lt g_11) (by decide))) (by decide) (Nat.le_of_ble_eq_true rfl) (by decide) (by decide) dX12_readLine_20 rfl (fun y_12 D_13 h => ?_)
      refine aw_if_eq (n := 26) (tgt := 28) dX12_readLine_23 rfl (by decide) (fun c => ?_) (fun c => ?_)
      · replace h := Ok.ift h c
        obtain ⟨v3_14, e_v3_14, h⟩ := Ok.let_ h
        refine aw_iinc (n := 31) (al' := [some (.ref 88), some (.int v1), some (.int v2), some (.int v3_14)]) dX12_readLine_28 rfl rfl e_v3_14 (by decide) rfl ?_
        refine aw_goto (tgt := 4) dX12_readLine_31 (by decide) ?_
        exact aw_le' (hL4 (v2, v3_14, D_13) (Ok.dn h :)) ⟨rfl, ⟨rfl, ⟨rfl, ⟨rfl, trivial⟩⟩⟩⟩
      · replace h := Ok.iff h c
        refine aw_iload_n (n := 27) (i := 3) dX12_readLine_26 rfl rfl rfl ?_
        refine aw_istore_n (n := 28) (i := 2) (al' := [some (.ref 88), some (.int v1), some (.int v3), some (.int v3)]) dX12_readLine_27 rfl rfl rfl (by decide) rfl ?_
        obtain ⟨v3_15, e_v3_15, h⟩ := Ok.let_ h
        refine aw_iinc (n := 31) (al' := [some (.ref 88), some (.int v1), some (.int v3), some (.int v3_15)]) dX12_readLine_28 rfl rfl e_v3_15 (by decide) rfl ?_
        refine aw_goto (tgt := 4) dX12_readLine_31 (by decide) ?_
        exact aw_le' (hL4 (v3, v3_15, D_13) (Ok.dn h :)) ⟨rfl, ⟨rfl, ⟨rfl, ⟨rfl, trivial⟩⟩⟩⟩
  refine aw_iconst (n := 1) (v := (-1)) dX12_readLine_0 rfl (by decide) ?_
  refine aw_istore_n (n := 2) (i := 2) (al' := [some (.ref 88), some (.int v1), some (.int (-1)), none]) dX12_readLine_1 rfl rfl rfl (by decide) rfl ?_
  refine aw_iconst (n := 3) (v := 0) dX12_readLine_2 rfl (by decide) ?_
  refine aw_istore_n (n := 4) (i := 3) (al' := [some (.ref 88), some (.int v1), some (.int (-1)), some (.int 0)]) dX12_readLine_3 rfl rfl rfl (by decide) rfl ?_
  exact aw_le' (hJ_4 v1 (-1) 0 D h) ⟨rfl, ⟨rfl, ⟨rfl, ⟨rfl, trivial⟩⟩⟩⟩
