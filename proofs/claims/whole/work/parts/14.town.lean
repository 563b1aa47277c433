theorem dX11_append_0 : decode cX11_append 0 = .ok (.bipush 24, 2) := by decide +kernel
theorem dX11_append_2 : decode cX11_append 2 = .ok (.istore_n 2, 1) := by decide +kernel
theorem dX11_append_3 : decode cX11_append 3 = .ok (.iload_n 2, 1) := by decide +kernel
theorem dX11_append_4 : decode cX11_append 4 = .ok (.ifCond .lt 42, 3) := by decide +kernel
theorem dX11_append_7 : decode cX11_append 7 = .ok (.aload_n 0, 1) := by decide +kernel
theorem dX11_append_8 : decode cX11_append 8 = .ok (.getfield 87, 3) := by decide +kernel
theorem dX11_append_11 : decode cX11_append 11 = .ok (.sipush 700, 3) := by decide +kernel
theorem dX11_append_14 : decode cX11_append 14 = .ok (.if_icmp .ge 32, 3) := by decide +kernel
theorem dX11_append_17 : decode cX11_append 17 = .ok (.aload_n 0, 1) := by decide +kernel
theorem dX11_append_18 : decode cX11_append 18 = .ok (.getfield 9, 3) := by decide +kernel
theorem dX11_append_21 : decode cX11_append 21 = .ok (.aload_n 0, 1) := by decide +kernel
theorem dX11_append_22 : decode cX11_append 22 = .ok (.getfield 87, 3) := by decide +kernel
theorem dX11_append_25 : decode cX11_append 25 = .ok (.iload_n 1, 1) := by decide +kernel
theorem dX11_append_26 : decode cX11_append 26 = .ok (.iload_n 2, 1) := by decide +kernel
theorem dX11_append_27 : decode cX11_append 27 = .ok (.iushr, 1) := by decide +kernel
theorem dX11_append_28 : decode cX11_append 28 = .ok (.i2b, 1) := by decide +kernel
theorem dX11_append_29 : decode cX11_append 29 = .ok (.bastore, 1) := by decide +kernel
theorem dX11_append_30 : decode cX11_append 30 = .ok (.aload_n 0, 1) := by decide +kernel
theorem dX11_append_31 : decode cX11_append 31 = .ok (.dup, 1) := by decide +kernel
theorem dX11_append_32 : decode cX11_append 32 = .ok (.getfield 87, 3) := by decide +kernel
theorem dX11_append_35 : decode cX11_append 35 = .ok (.iconst 1, 1) := by decide +kernel
theorem dX11_append_36 : decode cX11_append 36 = .ok (.iadd, 1) := by decide +kernel
theorem dX11_append_37 : decode cX11_append 37 = .ok (.putfield 87, 3) := by decide +kernel
theorem dX11_append_40 : decode cX11_append 40 = .ok (.iinc 2 (-8), 3) := by decide +kernel
theorem dX11_append_43 : decode cX11_append 43 = .ok (.goto (-40), 3) := by decide +kernel
theorem dX11_append_46 : decode cX11_append 46 = .ok (.return_, 1) := by decide +kernel
def J_X11_append_46 (D : aD) : Option (aD) :=
  some D
def B_X11_append_3 (v1 : Int32) (v2 : Int32) (D : aD) : Option ((Int32 × aD) ⊕ ((aD))) :=
  if v2 < 0 then (some (.inr D)) else (if 700 ≤ gI D 0 1 then (some (.inr D)) else (aGd (aIn (gI D 0 1) 700) (aLet (pI D 1 (gI D 0 1).toNatClampNeg (((v1.toUInt32 >>> (v2.toUInt32 &&& Int32.toUInt32 31)).toInt32).toInt8.toInt32).toInt8.toInt32) (fun D_2 => aLet (pI D_2 0 1 ((gI D_2 0 1) + 1)) (fun D_3 => aLet (v2 + (-8)) (fun v2_4 => some (.inl (v2_4, D_3))))))))
def J_X11_append_3 (v1 : Int32) (v2 : Int32) (D : aD) : Option (aD) :=
  (aLp (fun s => B_X11_append_3 v1 s.1 s.2) (v2, D)).bind (fun r => J_X11_append_46 r)
def f_X11_append (v1 : Int32) (D : aD) : Option (aD) :=
  J_X11_append_3 v1 24 D
set_option maxRecDepth 100000 in
set_option maxHeartbeats 800000 in
theorem c_X11_append {G : aG} (hG : gOK G) {shp : List aSh} (hS : aShp shp) {fr : Option Nat} {v1 : Int32} {D : aD} {K : aD → Prop} (h : Ok (f_X11_append v1 D) K) : AC G (aRm 1 0 0) M_X11_append [.ref 0, .int v1] fr shp D (aQv shp K) := by
  unfold f_X11_append at h
  refine AC.of (al := [some (.ref 0), some (.int v1), none]) (r := 1) (by decide) (Nat.le_of_ble_eq_true rfl) rfl ?_
  have hJ_46 : ∀ (D : aD), Ok (J_X11_append_46 D) K → AW G (aRm 1 0 0) M_X11_append fr 0 0 46 [none, none, none] [] shp D (aQv shp K) := by
    intro D h
    unfold J_X11_append_46 at h
    exact aw_vret rfl (by decide) (by decide) dX11_append_46 ⟨rfl, rfl, (Ok.dn h :)⟩
  have hJ_3 : ∀ (v1 : Int32) (v2 : Int32) (D : aD), Ok (J_X11_append_3 v1 v2 D) K → AW G (aRm 1 0 0) M_X11_append fr 0 0 3 [some (.ref 0), some (.int v1), some (.int v2)] [] shp D (aQv shp K) := by
    intro v1 v2 D h
    unfold J_X11_append_3 at h
    refine Ok.lp (P := fun s => AW G (aRm 1 0 0) M_X11_append fr 0 0 3 [some (.ref 0), some (.int v1), some (.int (s.1))] [] shp s.2 (aQv shp K)) (fun s Kb3 hL3 hR3 h => ?_) (v2, D) (Ok.bind h)
    obtain ⟨v2, D⟩ := s
    replace h : Ok (B_X11_append_3 v1 v2 D) Kb3 := h
    unfold B_X11_append_3 at h
    refine aw_iload_n (n := 4) (i := 2) dX11_append_3 rfl rfl rfl ?_
    refine aw_if_lt (n := 7) (tgt := 46) dX11_append_4 rfl (by decide) (fun c => ?_) (fun c => ?_)
    · replace h := Ok.ift h c
      exact aw_le' (hJ_46 D (hR3 D (Ok.dn h :))) trivial
    · replace h := Ok.iff h c
      refine aw_aload_n (n := 8) (i := 0) dX11_append_7 rfl rfl rfl ?_
      refine aw_getI (n := 11) (j := 1) hG.1 fl_RX11_87 (sF_0 hS) rfl dX11_append_8 rfl ?_
      refine aw_sipush (n := 14) (v := 700) dX11_append_11 rfl (by decide) ?_
      refine aw_icmp_ge (n := 17) (tgt := 46) dX11_append_14 rfl (by decide) (fun c => ?_) (fun c => ?_)
      · replace h := Ok.ift h c
        exact aw_le' (hJ_46 D (hR3 D (Ok.dn h :))) trivial
      · replace h := Ok.iff h c
        refine aw_aload_n (n := 18) (i := 0) dX11_append_17 rfl rfl rfl ?_
        refine aw_getR (n := 21) (j := 0) (r := 1) hG.1 fl_RX11_9 (sF_0 hS) rfl dX11_append_18 rfl ?_
        refine aw_aload_n (n := 22) (i := 0) dX11_append_21 rfl rfl rfl ?_
        refine aw_getI (n := 25) (j := 1) hG.1 fl_RX11_87 (sF_0 hS) rfl dX11_append_22 rfl ?_
        refine aw_iload_n (n := 26) (i := 1) dX11_append_25 rfl rfl rfl ?_
        refine aw_iload_n (n := 27) (i := 2) dX11_append_26 rfl rfl rfl ?_
        refine aw_iushr (n := 28) dX11_append_27 rfl ?_
        refine aw_i2b (n := 29) dX11_append_28 rfl ?_
        obtain ⟨g_1, h⟩ := Ok.gd h
        obtain ⟨D_2, e_D_2, h⟩ := Ok.let_ h
        refine aw_bastore (n := 30) hG.1 (sF_1 hS) (aIn_in g_1) e_D_2 dX11_append_29 rfl ?_
        refine aw_aload_n (n := 31) (i := 0) dX11_append_30 rfl rfl rfl ?_
        refine aw_dup (n := 32) dX11_append_31 rfl rfl ?_
        refine aw_getI (n := 35) (j := 1) hG.1 fl_RX11_87 (sF_0 hS) rfl dX11_append_32 rfl ?_
        refine aw_iconst (n := 36) (v := 1) dX11_append_35 rfl (by decide) ?_
        refine aw_iadd (n := 37) dX11_append_36 rfl ?_
        obtain ⟨D_3, e_D_3, h⟩ := Ok.let_ h
        refine aw_putI (n := 40) (j := 1) hG.1 fl_RX11_87 (sF_0 hS) rfl e_D_3 dX11_append_37 rfl ?_
        obtain ⟨v2_4, e_v2_4, h⟩ := Ok.let_ h
        refine aw_iinc (n := 43) (al' := [some (.ref 0), some (.int v1), some (.int v2_4)]) dX11_append_40 rfl rfl e_v2_4 (by decide) rfl ?_
        refine aw_goto (tgt := 3) dX11_append_43 (by decide) ?_
        exact aw_le' (hL3 (v2_4, D_3) (Ok.dn h :)) ⟨rfl, ⟨rfl, ⟨rfl, trivial⟩⟩⟩
  refine aw_bipush (n := 2) (v := 24) dX11_append_0 rfl (by decide) ?_
  refine aw_istore_n (n := 3) (i := 2) (al' := [some (.ref 0), some (.int v1), some (.int 24)]) dX11_append_2 rfl rfl rfl (by decide) rfl ?_
  exact aw_le' (hJ_3 v1 24 D h) ⟨rfl, ⟨rfl, ⟨rfl, trivial⟩⟩⟩
theorem dX11_feed_0 : decode cX11_feed 0 = .ok (.aload_n 0, 1) := by decide +kernel
theorem dX11_feed_1 : decode cX11_feed 1 = .ok (.getfield 87, 3) := by decide +kernel
theorem dX11_feed_4 : decode cX11_feed 4 = .ok (.bipush 20, 2) := by decide +kernel
theorem dX11_feed_6 : decode cX11_feed 6 = .ok (.iadd, 1) := by decide +kernel
theorem dX11_feed_7 : decode cX11_feed 7 = .ok (.sipush 700, 3) := by decide +kernel
theorem dX11_feed_10 : decode cX11_feed 10 = .ok (.if_icmp .le 5, 3) := by decide +kernel
theorem dX11_feed_13 : decode cX11_feed 13 = .ok (.iconst (-1), 1) := by decide +kernel
theorem dX11_feed_14 : decode cX11_feed 14 = .ok (.ireturn, 1) := by decide +kernel
theorem dX11_feed_15 : decode cX11_feed 15 = .ok (.aload_n 0, 1) := by decide +kernel
theorem dX11_feed_16 : decode cX11_feed 16 = .ok (.iload_n 1, 1) := by decide +kernel
theorem dX11_feed_17 : decode cX11_feed 17 = .ok (.invokevirtual 90, 3) := by decide +kernel
theorem dX11_feed_20 : decode cX11_feed 20 = .ok (.aload_n 0, 1) := by decide +kernel
theorem dX11_feed_21 : decode cX11_feed 21 = .ok (.iload_n 2, 1) := by decide +kernel
theorem dX11_feed_22 : decode cX11_feed 22 = .ok (.invokevirtual 90, 3) := by decide +kernel
theorem dX11_feed_25 : decode cX11_feed 25 = .ok (.aload_n 0, 1) := by decide +kernel
theorem dX11_feed_26 : decode cX11_feed 26 = .ok (.iload_n 3, 1) := by decide +kernel
theorem dX11_feed_27 : decode cX11_feed 27 = .ok (.invokevirtual 90, 3) := by decide +kernel
theorem dX11_feed_30 : decode cX11_feed 30 = .ok (.aload_n 0, 1) := by decide +kernel
theorem dX11_feed_31 : decode cX11_feed 31 = .ok (.iload 4, 2) := by decide +kernel
theorem dX11_feed_33 : decode cX11_feed 33 = .ok (.invokevirtual 90, 3) := by decide +kernel
theorem dX11_feed_36 : decode cX11_feed 36 = .ok (.aload_n 0, 1) := by decide +kernel
theorem dX11_feed_37 : decode cX11_feed 37 = .ok (.iload 5, 2) := by decide +kernel
theorem dX11_feed_39 : decode cX11_feed 39 = .ok (.invokevirtual 90, 3) := by decide +kernel
theorem dX11_feed_42 : decode cX11_feed 42 = .ok (.aload_n 0, 1) := by decide +kernel
theorem dX11_feed_43 : decode cX11_feed 43 = .ok (.getfield 87, 3) := by decide +kernel
theorem dX11_feed_46 : decode cX11_feed 46 = .ok (.ireturn, 1) := by decide +kernel
def f_X11_feed (v1 : Int32) (v2 : Int32) (v3 : Int32) (v4 : Int32) (v5 : Int32) (D : aD) : Option (Int32 × aD) :=
  if (gI D 0 1) + 20 ≤ 700 then ((f_X11_append v1 D).bind (fun D_1 => (f_X11_append v2 D_1).bind (fun D_2 => (f_X11_append v3 D_2).bind (fun D_3 => (f_X11_append v4 D_3).bind (fun D_4 => (f_X11_append v5 D_4).bind (fun D_5 => some (gI D_5 0 1, D_5))))))) else (some ((-1), D))
set_option maxRecDepth 100000 in
set_option maxHeartbeats 800000 in
theorem c_X11_feed {G : aG} (hG : gOK G) {shp : List aSh} (hS : aShp shp) {fr : Option Nat} {v1 : Int32} {v2 : Int32} {v3 : Int32} {v4 : Int32} {v5 : Int32} {D : aD} {K : Int32 → aD → Prop} (h : Ok2 (f_X11_feed v1 v2 v3 v4 v5 D) K) : AC G (aRm 2 0 0) M_X11_feed [.ref 0, .int v1, .int v2, .int v3, .int v4, .int v5] fr shp D (aQi shp K) := by
  replace h := Ok2.ok h
  unfold f_X11_feed at h
  refine AC.of (al := [some (.ref 0), some (.int v1), some (.int v2), some (.int v3), some (.int v4), some (.int v5)]) (r := 0) (by decide) (Nat.le_of_ble_eq_true rfl) rfl ?_
  refine aw_aload_n (n := 1) (i := 0) dX11_feed_0 rfl rfl rfl ?_
  refine aw_getI (n := 4) (j := 1) hG.1 fl_RX11_87 (sF_0 hS) rfl dX11_feed_1 rfl ?_
  refine aw_bipush (n := 6) (v := 20) dX11_feed_4 rfl (by decide) ?_
  refine aw_iadd (n := 7) dX11_feed_6 rfl ?_
  refine aw_sipush (n := 10) (v := 700) dX11_feed_7 rfl (by decide) ?_
  refine aw_icmp_le (n := 13) (tgt := 15) dX11_feed_10 rfl (by decide) (fun c => ?_) (fun c => ?_)
  · replace h := Ok.ift h c
    refine aw_aload_n (n := 16) (i := 0) dX11_feed_15 rfl rfl rfl ?_
    refine aw_iload_n (n := 17) (i := 1) dX11_feed_16 rfl rfl rfl ?_
    refine aw_cVv (M := M_X11_feed) (n := 20) (As := [.int v1]) (rest := []) hG.1 lk_RX11_90 rfl rfl (sF_0 hS) (c_X11_append hG hS (h := Ok.bind h)) (by decide) (Nat.le_of_ble_eq_true rfl) (by decide) (by decide) dX11_feed_17 rfl (fun D_1 h => ?_)
    refine aw_aload_n (n := 21) (i := 0) dX11_feed_20 rfl rfl rfl ?_
    refine aw_iload_n (n := 22) (i := 2) dX11_feed_21 rfl rfl rfl ?_
    refine aw_cVv (M := M_X11_feed) (n := 25) (As := [.int v2]) (rest := []) hG.1 lk_RX11_90 rfl rfl (sF_0 hS) (c_X11_append hG hS (h := Ok.bind h)) (by decide) (Nat.le_of_ble_eq_true rfl) (by decide) (by decide) dX11_feed_22 rfl (fun D_2 h => ?_)
    refine aw_aload_n (n := 26) (i := 0) dX11_feed_25 rfl rfl rfl ?_
    refine aw_iload_n (n := 27) (i := 3) dX11_feed_26 rfl rfl rfl ?_
    refine aw_cVv (M := M_X11_feed) (n := 30) (As := [.int v3]) (rest := []) hG.1 lk_RX11_90 rfl rfl (sF_0 hS) (c_X11_append hG hS (h := Ok.bind h)) (by decide) (Nat.le_of_ble_eq_true rfl) (by decide) (by decide) dX11_feed_27 rfl (fun D_3 h => ?_)
    refine aw_aload_n (n := 31) (i := 0) dX11_feed_30 rfl rfl rfl ?_
    refine aw_iload (n := 33) (i := 4) dX11_feed_31 rfl rfl ?_
    refine aw_cVv (M := M_X11_feed) (n := 36) (As := [.int v4]) (rest := []) hG.1 lk_RX11_90 rfl rfl (sF_0 hS) (c_X11_append hG hS (h := Ok.bind h)) (by decide) (Nat.le_of_ble_eq_true rfl) (by decide) (by decide) dX11_feed_33 rfl (fun D_4 h => ?_)
    refine aw_aload_n (n := 37) (i := 0) dX11_feed_36 rfl rfl rfl ?_
    refine aw_iload (n := 39) (i := 5) dX11_feed_37 rfl rfl ?_
    refine aw_cVv (M := M_X11_feed) (n := 42) (As := [.int v5]) (rest := []) hG.1 lk_RX11_90 rfl rfl (sF_0 hS) (c_X11_append hG hS (h := Ok.bind h)) (by decide) (Nat.le_of_ble_eq_true rfl) (by decide) (by decide) dX11_feed_39 rfl (fun D_5 h => ?_)
    refine aw_aload_n (n := 43) (i := 0) dX11_feed_42 rfl rfl rfl ?_
    refine aw_getI (n := 46) (j := 1) hG.1 fl_RX11_87 (sF_0 hS) rfl dX11_feed_43 rfl ?_
    exact aw_iret rfl (by decide) (by decide) dX11_feed_46 ⟨_, rfl, rfl, (Ok.dn h :)⟩
  · replace h := Ok.iff h c
    refine aw_iconst (n := 14) (v := (-1)) dX11_feed_13 rfl (by decide) ?_
    exact aw_iret rfl (by decide) (by decide) dX11_feed_14 ⟨_, rfl, rfl, (Ok.dn h :)⟩
theorem dX11_town_0 : decode cX11_town 0 = .ok (.iload_n 1, 1) := by decide +kernel
theorem dX11_town_1 : decode cX11_town 1 = .ok (.ifCond .lt 11, 3) := by decide +kernel
theorem dX11_town_4 : decode cX11_town 4 = .ok (.iload_n 1, 1) := by decide +kernel
theorem dX11_town_5 : decode cX11_town 5 = .ok (.aload_n 0, 1) := by decide +kernel
theorem dX11_town_6 : decode cX11_town 6 = .ok (.getfield 87, 3) := by decide +kernel
theorem dX11_town_9 : decode cX11_town 9 = .ok (.if_icmp .le 13, 3) := by decide +kernel
theorem dX11_town_12 : decode cX11_town 12 = .ok (.new 94, 3) := by decide +kernel
theorem dX11_town_15 : decode cX11_town 15 = .ok (.dup, 1) := by decide +kernel
theorem dX11_town_16 : decode cX11_town 16 = .ok (.ldc 96, 2) := by decide +kernel
theorem dX11_town_18 : decode cX11_town 18 = .ok (.invokespecial 98, 3) := by decide +kernel
theorem dX11_town_21 : decode cX11_town 21 = .ok (.athrow, 1) := by decide +kernel
theorem dX11_town_22 : decode cX11_town 22 = .ok (.aload_n 0, 1) := by decide +kernel
theorem dX11_town_23 : decode cX11_town 23 = .ok (.getfield 42, 3) := by decide +kernel
theorem dX11_town_26 : decode cX11_town 26 = .ok (.iload_n 1, 1) := by decide +kernel
theorem dX11_town_27 : decode cX11_town 27 = .ok (.invokevirtual 101, 3) := by decide +kernel
theorem dX11_town_30 : decode cX11_town 30 = .ok (.istore_n 2, 1) := by decide +kernel
theorem dX11_town_31 : decode cX11_town 31 = .ok (.aload_n 0, 1) := by decide +kernel
theorem dX11_town_32 : decode cX11_town 32 = .ok (.iconst 0, 1) := by decide +kernel
theorem dX11_town_33 : decode cX11_town 33 = .ok (.putfield 87, 3) := by decide +kernel
theorem dX11_town_36 : decode cX11_town 36 = .ok (.aload_n 0, 1) := by decide +kernel
theorem dX11_town_37 : decode cX11_town 37 = .ok (.aload_n 0, 1) := by decide +kernel
theorem dX11_town_38 : decode cX11_town 38 = .ok (.getfield 42, 3) := by decide +kernel
theorem dX11_town_41 : decode cX11_town 41 = .ok (.getfield 105, 3) := by decide +kernel
theorem dX11_town_44 : decode cX11_town 44 = .ok (.putfield 13, 3) := by decide +kernel
theorem dX11_town_47 : decode cX11_town 47 = .ok (.iload_n 2, 1) := by decide +kernel
theorem dX11_town_48 : decode cX11_town 48 = .ok (.ifCond .eq 18, 3) := by decide +kernel
theorem dX11_town_51 : decode cX11_town 51 = .ok (.aload_n 0, 1) := by decide +kernel
theorem dX11_town_52 : decode cX11_town 52 = .ok (.getfield 30, 3) := by decide +kernel
theorem dX11_town_55 : decode cX11_town 55 = .ok (.getfield 106, 3) := by decide +kernel
theorem dX11_town_58 : decode cX11_town 58 = .ok (.iconst 0, 1) := by decide +kernel
theorem dX11_town_59 : decode cX11_town 59 = .ok (.dup2, 1) := by decide +kernel
theorem dX11_town_60 : decode cX11_town 60 = .ok (.iaload, 1) := by decide +kernel
theorem dX11_town_61 : decode cX11_town 61 = .ok (.iconst 1, 1) := by decide +kernel
theorem dX11_town_62 : decode cX11_town 62 = .ok (.iadd, 1) := by decide +kernel
theorem dX11_town_63 : decode cX11_town 63 = .ok (.iastore, 1) := by decide +kernel
theorem dX11_town_64 : decode cX11_town 64 = .ok (.iload_n 2, 1) := by decide +kernel
theorem dX11_town_65 : decode cX11_town 65 = .ok (.ireturn, 1) := by decide +kernel
theorem dX11_town_66 : decode cX11_town 66 = .ok (.aload_n 0, 1) := by decide +kernel
theorem dX11_town_67 : decode cX11_town 67 = .ok (.getfield 20, 3) := by decide +kernel
theorem dX11_town_70 : decode cX11_town 70 = .ok (.aload_n 0, 1) := by decide +kernel
theorem dX11_town_71 : decode cX11_town 71 = .ok (.getfield 24, 3) := by decide +kernel
theorem dX11_town_74 : decode cX11_town 74 = .ok (.invokevirtual 110, 3) := by decide +kernel
theorem dX11_town_77 : decode cX11_town 77 = .ok (.aload_n 0, 1) := by decide +kernel
theorem dX11_town_78 : decode cX11_town 78 = .ok (.getfield 30, 3) := by decide +kernel
theorem dX11_town_81 : decode cX11_town 81 = .ok (.invokevirtual 114, 3) := by decide +kernel
theorem dX11_town_84 : decode cX11_town 84 = .ok (.aload_n 0, 1) := by decide +kernel
theorem dX11_town_85 : decode cX11_town 85 = .ok (.iconst 0, 1) := by decide +kernel
theorem dX11_town_86 : decode cX11_town 86 = .ok (.putfield 117, 3) := by decide +kernel
theorem dX11_town_89 : decode cX11_town 89 = .ok (.iconst 0, 1) := by decide +kernel
theorem dX11_town_90 : decode cX11_town 90 = .ok (.ireturn, 1) := by decide +kernel
def J_X11_town_12 (D : aD) : Option ((String ⊕ Int32) × aD) :=
  some (.inl "java/lang/IllegalArgumentException", D)
def f_X11_town (v1 : Int32) (D : aD) : Option ((String ⊕ Int32) × aD) :=
  if v1 < 0 then (J_X11_town_12 D) else (if v1 ≤ gI D 0 1 then (aBi (f_X7_read v1 D) (fun y_1 D_2 => aLet (pI D_2 0 1 0) (fun D_3 => aLet (pI D_3 0 2 (gI D_3 56 8)) (fun D_4 => if y_1 = 0 then ((f_X6_copyFrom D_4).bind (fun D_5 => (f_X9_reset_40 D_5).bind (fun D_6 => aLet (pI D_6 0 7 0) (fun D_7 => some (.inr 0, D_7))))) else (aGd (aIn 0 3) (aGd (aIn 0 3) (aLet (pI D_4 47 (0 : Int32).toNatClampNeg ((gI D_4 47 (0 : Int32).toNatClampNeg) + 1)) (fun D_10 => some (.inr y_1, D_10))))))))) else (J_X11_town_12 D))
set_option maxRecDepth 100000 in
set_option maxHeartbeats 800000 in
theorem c_X11_town {G : aG} (hG : gOK G) {shp : List aSh} (hS : aShp shp) {fr : Option Nat} {v1 : Int32} {D : aD} {K : (String ⊕ Int32) → aD → Prop} (h : Ok2 (f_X11_town v1 D) K) : AC G (aRm 13 1 6) M_X11_town [.ref 0, .int v1] fr shp D (aQxi shp K) := by
  replace h := Ok2.ok h
  unfold f_X11_town at h
  refine AC.of (al := [some (.ref 0), some (.int v1), none]) (r := 1) (by decide) (Nat.le_of_ble_eq_true rfl) rfl ?_
  have hJ_12 : ∀ (D : aD), Ok (J_X11_town_12 D) (fun r => K r.1 r.2) → AW G (aRm 13 1 6) M_X11_town fr 0 0 12 [none, none, none] [] shp D (aQxi shp K) := by
    intro D h
    unfold J_X11_town_12 at h
    exact aw_throw (M := M_X11_town) (sk := 10000 + 13) (names := ["java/lang/RuntimeException", "java/lang/Exception"]) hG.2.2.2.1 (by decide) (by decide) kx_RX11_98.1 kx_RX11_98.2.1 (gS_RX11_96 hG) kx_RX11_98.2.2 dX11_town_12 dX11_town_15 dX11_town_16 dX11_town_18 dX11_town_21 (by decide) (by decide) (by decide) (by decide) ⟨rfl, Or.inr ⟨_, rfl, (Ok.dn h :)⟩⟩
  refine aw_iload_n (n := 1) (i := 1) dX11_town_0 rfl rfl rfl ?_
  refine aw_if_lt (n := 4) (tgt := 12) dX11_town_1 rfl (by decide) (fun c => ?_) (fun c => ?_)
  · replace h := Ok.ift h c
    exact aw_wid (by decide) (by decide) <| aw_le' (hJ_12 D h) trivial
  · replace h := Ok.iff h c
    refine aw_iload_n (n := 5) (i := 1) dX11_town_4 rfl rfl rfl ?_
    refine aw_aload_n (n := 6) (i := 0) dX11_town_5 rfl rfl rfl ?_
    refine aw_getI (n := 9) (j := 1) hG.1 fl_RX11_87 (sF_0 hS) rfl dX11_town_6 rfl ?_
    refine aw_icmp_le (n := 12) (tgt := 22) dX11_town_9 rfl (by decide) (fun c => ?_) (fun c => ?_)
    · replace h := Ok.ift h c
      refine aw_aload_n (n := 23) (i := 0) dX11_town_22 rfl rfl rfl ?_
      refine aw_getR (n := 26) (j := 8) (r := 56) hG.1 fl_RX11_42 (sF_0 hS) rfl dX11_town_23 rfl ?_
      refine aw_iload_n (n := 27) (i := 1) dX11_town_26 rfl rfl rfl ?_
      refine aw_cVi (M := M_X11_town) (n := 30) (As := [.int v1]) (rest := []) hG.1 lk_RX11_101 rfl rfl (sF_56 hS) (c_X7_read hG hS (h := Ok.bi h)) (by decide) (Nat.le_of_ble_eq_true rfl) (by decide) (by decide) dX11_town_27 rfl (fun y_1 D_2 h => ?_)
      refine aw_istore_n (n := 31) (i := 2) (al' := [some (.ref 0), some (.int v1), some (.int y_1)]) dX11_town_30 rfl rfl rfl (by decide) rfl ?_
      refine aw_aload_n (n := 32) (i := 0) dX11_town_31 rfl rfl rfl ?_
      refine aw_iconst (n := 33) (v := 0) dX11_town_32 rfl (by decide) ?_
      obtain ⟨D_3, e_D_3, h⟩ := Ok.let_ h
      refine aw_putI (n := 36) (j := 1) hG.1 fl_RX11_87 (sF_0 hS) rfl e_D_3 dX11_town_33 rfl ?_
      refine aw_aload_n (n := 37) (i := 0) dX11_town_36 rfl rfl rfl ?_
      refine aw_aload_n (n := 38) (i := 0) dX11_town_37 rfl rfl rfl ?_
      refine aw_getR (n := 41) (j := 8) (r := 56) hG.1 fl_RX11_42 (sF_0 hS) rfl dX11_town_38 rfl ?_
      refine aw_getI (n := 44) (j := 8) hG.1 fl_RX11_105 (sF_56 hS) rfl dX11_town_41 rfl ?_
      obtain ⟨D_4, e_D_4, h⟩ := Ok.let_ h
      refine aw_putI (n := 47) (j := 2) hG.1 fl_RX11_13 (sF_0 hS) rfl e_D_4 dX11_town_44 rfl ?_
      refine aw_iload_n (n := 48) (i := 2) dX11_town_47 rfl rfl rfl ?_
      refine aw_if_eq (n := 51) (tgt := 66) dX11_town_48 rfl (by decide) (fun c => ?_) (fun c => ?_)
      · replace h := Ok.ift h c
        refine aw_aload_n (n := 67) (i := 0) dX11_town_66 rfl rfl rfl ?_
        refine aw_getR (n := 70) (j := 3) (r := 2) hG.1 fl_RX11_20 (sF_0 hS) rfl dX11_town_67 rfl ?_
        refine aw_aload_n (n := 71) (i := 0) dX11_town_70 rfl rfl rfl ?_
        refine aw_getR (n := 74) (j := 4) (r := 21) hG.1 fl_RX11_24 (sF_0 hS) rfl dX11_town_71 rfl ?_
        refine aw_cVv (M := M_X11_town) (n := 77) (As := [.ref 21]) (rest := []) hG.1 lk_RX11_110 rfl rfl (sF_2 hS) (c_X6_copyFrom hG hS (h := Ok.bind h)) (by decide) (Nat.le_of_ble_eq_true rfl) (by decide) (by decide) dX11_town_74 rfl (fun D_5 h => ?_)
        refine aw_aload_n (n := 78) (i := 0) dX11_town_77 rfl rfl rfl ?_
        refine aw_getR (n := 81) (j := 5) (r := 40) hG.1 fl_RX11_30 (sF_0 hS) rfl dX11_town_78 rfl ?_
        refine aw_cVv (M := M_X11_town) (n := 84) (As := []) (rest := []) hG.1 lk_RX11_114 rfl rfl (sF_40 hS) (c_X9_reset_40 hG (h := Ok.bind h) (sF_40 hS) (sF_41 hS) (sF_42 hS)) (by decide) (Nat.le_of_ble_eq_true rfl) (by decide) (by decide) dX11_town_81 rfl (fun D_6 h => ?_)
        refine aw_aload_n (n := 85) (i := 0) dX11_town_84 rfl rfl rfl ?_
        refine aw_iconst (n := 86) (v := 0) dX11_town_85 rfl (by decide) ?_
        obtain ⟨D_7, e_D_7, h⟩ := Ok.let_ h
        refine aw_putZ (n := 89) (j := 7) hG.1 fl_RX11_117 (by decide) (sF_0 hS) rfl e_D_7 dX11_town_86 rfl ?_
        refine aw_iconst (n := 90) (v := 0) dX11_town_89 rfl (by decide) ?_
        exact aw_iret rfl (by decide) (by decide) dX11_town_90 ⟨rfl, Or.inl ⟨_, rfl, (Ok.dn h :)⟩⟩
      · replace h := Ok.iff h c
        refine aw_aload_n (n := 52) (i := 0) dX11_town_51 rfl rfl rfl ?_
        refine aw_getR (n := 55) (j := 5) (r := 40) hG.1 fl_RX11_30 (sF_0 hS) rfl dX11_town_52 rfl ?_
        refine aw_getR (n := 58) (j := 9) (r := 47) hG.1 fl_RX11_106 (sF_40 hS) rfl dX11_town_55 rfl ?_
        refine aw_iconst (n := 59) (v := 0) dX11_town_58 rfl (by decide) ?_
        refine aw_dup2 (n := 60) dX11_town_59 rfl rfl rfl ?_
        obtain ⟨g_8, h⟩ := Ok.gd h
        refine aw_iaload (n := 61) hG.1 (sF_47 hS) (aIn_in g_8) dX11_town_60 rfl ?_
        refine aw_iconst (n := 62) (v := 1) dX11_town_61 rfl (by decide) ?_
        refine aw_iadd (n := 63) dX11_town_62 rfl ?_
        obtain ⟨g_9, h⟩ := Ok.gd h
        obtain ⟨D_10, e_D_10, h⟩ := Ok.let_ h
        refine aw_iastore (n := 64) hG.1 (sF_47 hS) (aIn_in g_9) e_D_10 dX11_town_63 rfl ?_
        refine aw_iload_n (n := 65) (i := 2) dX11_town_64 rfl rfl rfl ?_
        exact aw_iret rfl (by decide) (by decide) dX11_town_65 ⟨rfl, Or.inl ⟨_, rfl, (Ok.dn h :)⟩⟩
    · replace h := Ok.iff h c
      exact aw_wid (by decide) (by decide) <| aw_le' (hJ_12 D h) trivial
theorem dX11_fault_0 : decode cX11_fault 0 = .ok (.aload_n 0, 1) := by decide +kernel
theorem dX11_fault_1 : decode cX11_fault 1 = .ok (.getfield 13, 3) := by decide +kernel
theorem dX11_fault_4 : decode cX11_fault 4 = .ok (.ireturn, 1) := by decide +kernel
def f_X11_fault (D : aD) : Option (Int32 × aD) :=
  some (gI D 0 2, D)
set_option maxRecDepth 100000 in
set_option maxHeartbeats 800000 in
theorem c_X11_fault {G : aG} (hG : gOK G) {shp : List aSh} (hS : aShp shp) {fr : Option Nat} {D : aD} {K : Int32 → aD → Prop} (h : Ok2 (f_X11_fault D) K) : AC G (aRm 1 0 0) M_X11_fault [.ref 0] fr shp D (aQi shp K) := by
  replace h := Ok2.ok h
  unfold f_X11_fault at h
  refine AC.of (al := [some (.ref 0)]) (r := 0) (by decide) (Nat.le_of_ble_eq_true rfl) rfl ?_
  refine aw_aload_n (n := 1) (i := 0) dX11_fault_0 rfl rfl rfl ?_
  refine aw_getI (n := 4) (j := 2) hG.1 fl_RX11_13 (sF_0 hS) rfl dX11_fault_1 rfl ?_
  exact aw_iret rfl (by decide) (by decide) dX11_fault_4 ⟨_, rfl, rfl, (Ok.dn h :)⟩
theorem dX11_need_0 : decode cX11_need 0 = .ok (.iload_n 0, 1) := by decide +kernel
theorem dX11_need_1 : decode cX11_need 1 = .ok (.ifCond .ne 14, 3) := by decide +kernel
theorem dX11_need_4 : decode cX11_need 4 = .ok (.new 321, 3) := by decide +kernel
theorem dX11_need_7 : decode cX11_need 7 = .ok (.dup, 1) := by decide +kernel
theorem dX11_need_8 : decode cX11_need 8 = .ok (.ldc_w 323, 3) := by decide +kernel
theorem dX11_need_11 : decode cX11_need 11 = .ok (.invokespecial 325, 3) := by decide +kernel
theorem dX11_need_14 : decode cX11_need 14 = .ok (.athrow, 1) := by decide +kernel
theorem dX11_need_15 : decode cX11_need 15 = .ok (.return_, 1) := by decide +kernel
def f_X11_need (v0 : Int32) (D : aD) : Option ((String ⊕ Int32) × aD) :=
  if v0 ≠ 0 then (some (.inr 0, D)) else (some (.inl "java/util/NoSuchElementException", D))
set_option maxRecDepth 100000 in
set_option maxHeartbeats 800000 in
theorem c_X11_need {G : aG} (hG : gOK G) {shp : List aSh} (hS : aShp shp) {fr : Option Nat} {v0 : Int32} {D : aD} {K : (String ⊕ Int32) → aD → Prop} (h : Ok2 (f_X11_need v0 D) K) : AC G (aRm 6 1 6) M_X11_need [.int v0] fr shp D (aQxv shp K) := by
  replace h := Ok2.ok h
  unfold f_X11_need at h
  refine AC.of (al := [some (.int v0)]) (r := 0) (by decide) (Nat.le_of_ble_eq_true rfl) rfl ?_
  refine aw_iload_n (n := 1) (i := 0) dX11_need_0 rfl rfl rfl ?_
  refine aw_if_ne (n := 4) (tgt := 15) dX11_need_1 rfl (by decide) (fun c => ?_) (fun c => ?_)
  · replace h := Ok.ift h c
    exact aw_vret rfl (by decide) (by decide) dX11_need_15 ⟨rfl, Or.inl ⟨rfl, (Ok.dn h :)⟩⟩
  · replace h := Ok.iffn h c
    exact aw_throwN (M := M_X11_need) (sk := 10000 + 14) (Y1 := "java/lang/RuntimeException") (r := ["java/lang/Exception"]) hG.2.2.2.1 (by decide) (by decide) kx_RX11_325.1 kx_RX11_325.2.1 (gS_RX11_323 hG) kx_RX11_325.2.2 dX11_need_4 dX11_need_7 dX11_need_8 dX11_need_11 dX11_need_14 (by decide) (by decide) (by decide) (by decide) ⟨rfl, Or.inr ⟨_, rfl, (Ok.dn h :)⟩⟩
theorem dX11_count_0 : decode cX11_count 0 = .ok (.iload_n 1, 1) := by decide +kernel
theorem dX11_count_1 : decode cX11_count 1 = .ok (.ifCond .lt 25, 3) := by decide +kernel
theorem dX11_count_4 : decode cX11_count 4 = .ok (.iload_n 1, 1) := by decide +kernel
theorem dX11_count_5 : decode cX11_count 5 = .ok (.bipush 16, 2) := by decide +kernel
theorem dX11_count_7 : decode cX11_count 7 = .ok (.if_icmp .le 15, 3) := by decide +kernel
theorem dX11_count_10 : decode cX11_count 10 = .ok (.iload_n 1, 1) := by decide +kernel
theorem dX11_count_11 : decode cX11_count 11 = .ok (.bipush 20, 2) := by decide +kernel
theorem dX11_count_13 : decode cX11_count 13 = .ok (.if_icmp .lt 13, 3) := by decide +kernel
theorem dX11_count_16 : decode cX11_count 16 = .ok (.iload_n 1, 1) := by decide +kernel
theorem dX11_count_17 : decode cX11_count 17 = .ok (.bipush 25, 2) := by decide +kernel
theorem dX11_count_19 : decode cX11_count 19 = .ok (.if_icmp .ge 7, 3) := by decide +kernel
theorem dX11_count_22 : decode cX11_count 22 = .ok (.iconst 1, 1) := by decide +kernel
theorem dX11_count_23 : decode cX11_count 23 = .ok (.goto 4, 3) := by decide +kernel
theorem dX11_count_26 : decode cX11_count 26 = .ok (.iconst 0, 1) := by decide +kernel
theorem dX11_count_27 : decode cX11_count 27 = .ok (.invokestatic 121, 3) := by decide +kernel
theorem dX11_count_30 : decode cX11_count 30 = .ok (.iload_n 1, 1) := by decide +kernel
theorem dX11_count_31 : decode cX11_count 31 = .ok (.bipush 20, 2) := by decide +kernel
theorem dX11_count_33 : decode cX11_count 33 = .ok (.if_icmp .lt 16, 3) := by decide +kernel
theorem dX11_count_36 : decode cX11_count 36 = .ok (.aload_n 0, 1) := by decide +kernel
theorem dX11_count_37 : decode cX11_count 37 = .ok (.getfield 20, 3) := by decide +kernel
theorem dX11_count_40 : decode cX11_count 40 = .ok (.getfield 125, 3) := by decide +kernel
theorem dX11_count_43 : decode cX11_count 43 = .ok (.iload_n 1, 1) := by decide +kernel
theorem dX11_count_44 : decode cX11_count 44 = .ok (.bipush 20, 2) := by decide +kernel
theorem dX11_count_46 : decode cX11_count 46 = .ok (.isub, 1) := by decide +kernel
theorem dX11_count_47 : decode cX11_count 47 = .ok (.iaload, 1) := by decide +kernel
theorem dX11_count_48 : decode cX11_count 48 = .ok (.ireturn, 1) := by decide +kernel
theorem dX11_count_49 : decode cX11_count 49 = .ok (.iload_n 1, 1) := by decide +kernel
theorem dX11_count_50 : decode cX11_count 50 = .ok (.tableswitch 213 0 15 #[78, 89, 100, 108, 116, 124, 132, 140, 148, 156, 164, 172, 180, 188, 193, 203], 78) := by decide +kernel
theorem dX11_count_128 : decode cX11_count 128 = .ok (.aload_n 0, 1) := by decide +kernel
theorem dX11_count_129 : decode cX11_count 129 = .ok (.getfield 20, 3) := by decide +kernel
theorem dX11_count_132 : decode cX11_count 132 = .ok (.getfield 128, 3) := by decide +kernel
theorem dX11_count_135 : decode cX11_count 135 = .ok (.getfield 132, 3) := by decide +kernel
theorem dX11_count_138 : decode cX11_count 138 = .ok (.ireturn, 1) := by decide +kernel
theorem dX11_count_139 : decode cX11_count 139 = .ok (.aload_n 0, 1) := by decide +kernel
theorem dX11_count_140 : decode cX11_count 140 = .ok (.getfield 20, 3) := by decide +kernel
theorem dX11_count_143 : decode cX11_count 143 = .ok (.getfield 128, 3) := by decide +kernel
theorem dX11_count_146 : decode cX11_count 146 = .ok (.getfield 137, 3) := by decide +kernel
theorem dX11_count_149 : decode cX11_count 149 = .ok (.ireturn, 1) := by decide +kernel
theorem dX11_count_150 : decode cX11_count 150 = .ok (.aload_n 0, 1) := by decide +kernel
theorem dX11_count_151 : decode cX11_count 151 = .ok (.getfield 20, 3) := by decide +kernel
theorem dX11_count_154 : decode cX11_count 154 = .ok (.getfield 140, 3) := by decide +kernel
theorem dX11_count_157 : decode cX11_count 157 = .ok (.ireturn, 1) := by decide +kernel
theorem dX11_count_158 : decode cX11_count 158 = .ok (.aload_n 0, 1) := by decide +kernel
theorem dX11_count_159 : decode cX11_count 159 = .ok (.getfield 20, 3) := by decide +kernel
theorem dX11_count_162 : decode cX11_count 162 = .ok (.getfield 143, 3) := by decide +kernel
theorem dX11_count_165 : decode cX11_count 165 = .ok (.ireturn, 1) := by decide +kernel
theorem dX11_count_166 : decode cX11_count 166 = .ok (.aload_n 0, 1) := by decide +kernel
theorem dX11_count_167 : decode cX11_count 167 = .ok (.getfield 20, 3) := by decide +kernel
theorem dX11_count_170 : decode cX11_count 170 = .ok (.getfield 146, 3) := by decide +kernel
theorem dX11_count_173 : decode cX11_count 173 = .ok (.ireturn, 1) := by decide +kernel
theorem dX11_count_174 : decode cX11_count 174 = .ok (.aload_n 0, 1) := by decide +kernel
theorem dX11_count_175 : decode cX11_count 175 = .ok (.getfield 20, 3) := by decide +kernel
theorem dX11_count_178 : decode cX11_count 178 = .ok (.getfield 149, 3) := by decide +kernel
theorem dX11_count_181 : decode cX11_count 181 = .ok (.ireturn, 1) := by decide +kernel
theorem dX11_count_182 : decode cX11_count 182 = .ok (.aload_n 0, 1) := by decide +kernel
theorem dX11_count_183 : decode cX11_count 183 = .ok (.getfield 20, 3) := by decide +kernel
theorem dX11_count_186 : decode cX11_count 186 = .ok (.getfield 152, 3) := by decide +kernel
theorem dX11_count_189 : decode cX11_count 189 = .ok (.ireturn, 1) := by decide +kernel
theorem dX11_count_190 : decode cX11_count 190 = .ok (.aload_n 0, 1) := by decide +kernel
theorem dX11_count_191 : decode cX11_count 191 = .ok (.getfield 20, 3) := by decide +kernel
theorem dX11_count_194 : decode cX11_count 194 = .ok (.getfield 155, 3) := by decide +kernel
theorem dX11_count_197 : decode cX11_count 197 = .ok (.ireturn, 1) := by decide +kernel
theorem dX11_count_198 : decode cX11_count 198 = .ok (.aload_n 0, 1) := by decide +kernel
theorem dX11_count_199 : decode cX11_count 199 = .ok (.getfield 20, 3) := by decide +kernel
theorem dX11_count_202 : decode cX11_count 202 = .ok (.getfield 158, 3) := by decide +kernel
theorem dX11_count_205 : decode cX11_count 205 = .ok (.ireturn, 1) := by decide +kernel
theorem dX11_count_206 : decode cX11_count 206 = .ok (.aload_n 0, 1) := by decide +kernel
theorem dX11_count_207 : decode cX11_count 207 = .ok (.getfield 20, 3) := by decide +kernel
theorem dX11_count_210 : decode cX11_count 210 = .ok (.getfield 161, 3) := by decide +kernel
theorem dX11_count_213 : decode cX11_count 213 = .ok (.ireturn, 1) := by decide +kernel
theorem dX11_count_214 : decode cX11_count 214 = .ok (.aload_n 0, 1) := by decide +kernel
theorem dX11_count_215 : decode cX11_count 215 = .ok (.getfield 30, 3) := by decide +kernel
theorem dX11_count_218 : decode cX11_count 218 = .ok (.getfield 164, 3) := by decide +kernel
theorem dX11_count_221 : decode cX11_count 221 = .ok (.ireturn, 1) := by decide +kernel
theorem dX11_count_222 : decode cX11_count 222 = .ok (.aload_n 0, 1) := by decide +kernel
theorem dX11_count_223 : decode cX11_count 223 = .ok (.getfield 30, 3) := by decide +kernel
theorem dX11_count_226 : decode cX11_count 226 = .ok (.getfield 167, 3) := by decide +kernel
theorem dX11_count_229 : decode cX11_count 229 = .ok (.ireturn, 1) := by decide +kernel
theorem dX11_count_230 : decode cX11_count 230 = .ok (.aload_n 0, 1) := by decide +kernel
theorem dX11_count_231 : decode cX11_count 231 = .ok (.getfield 30, 3) := by decide +kernel
theorem dX11_count_234 : decode cX11_count 234 = .ok (.getfield 170, 3) := by decide +kernel
theorem dX11_count_237 : decode cX11_count 237 = .ok (.ireturn, 1) := by decide +kernel
theorem dX11_count_238 : decode cX11_count 238 = .ok (.aload_n 0, 1) := by decide +kernel
theorem dX11_count_239 : decode cX11_count 239 = .ok (.getfield 87, 3) := by decide +kernel
theorem dX11_count_242 : decode cX11_count 242 = .ok (.ireturn, 1) := by decide +kernel
theorem dX11_count_243 : decode cX11_count 243 = .ok (.aload_n 0, 1) := by decide +kernel
theorem dX11_count_244 : decode cX11_count 244 = .ok (.getfield 30, 3) := by decide +kernel
theorem dX11_count_247 : decode cX11_count 247 = .ok (.getfield 106, 3) := by decide +kernel
theorem dX11_count_250 : decode cX11_count 250 = .ok (.iconst 0, 1) := by decide +kernel
theorem dX11_count_251 : decode cX11_count 251 = .ok (.iaload, 1) := by decide +kernel
theorem dX11_count_252 : decode cX11_count 252 = .ok (.ireturn, 1) := by decide +kernel
theorem dX11_count_253 : decode cX11_count 253 = .ok (.aload_n 0, 1) := by decide +kernel
theorem dX11_count_254 : decode cX11_count 254 = .ok (.getfield 30, 3) := by decide +kernel
theorem dX11_count_257 : decode cX11_count 257 = .ok (.getfield 106, 3) := by decide +kernel
theorem dX11_count_260 : decode cX11_count 260 = .ok (.iconst 1, 1) := by decide +kernel
theorem dX11_count_261 : decode cX11_count 261 = .ok (.iaload, 1) := by decide +kernel
theorem dX11_count_262 : decode cX11_count 262 = .ok (.ireturn, 1) := by decide +kernel
theorem dX11_count_263 : decode cX11_count 263 = .ok (.aload_n 0, 1) := by decide +kernel
theorem dX11_count_264 : decode cX11_count 264 = .ok (.getfield 30, 3) := by decide +kernel
theorem dX11_count_267 : decode cX11_count 267 = .ok (.getfield 106, 3) := by decide +kernel
theorem dX11_count_270 : decode cX11_count 270 = .ok (.iconst 2, 1) := by decide +kernel
theorem dX11_count_271 : decode cX11_count 271 = .ok (.iaload, 1) := by decide +kernel
theorem dX11_count_272 : decode cX11_count 272 = .ok (.ireturn, 1) := by decide +kernel
def J_X11_count_27 (v1 : Int32) (t0 : Int32) (D : aD) : Option ((String ⊕ Int32) × aD) :=
  aTry (f_X11_need t0 D) (fun y_1 D_2 => if v1 < 20 then (if v1 = 0 then (some (.inr (gI D_2 3 0), D_2)) else (if v1 = 1 then (some (.inr (gI D_2 3 1), D_2)) else (if v1 = 2 then (some (.inr (gI D_2 2 2), D_2)) else (if v1 = 3 then (some (.inr (gI D_2 2 3), D_2)) else (if v1 = 4 then (some (.inr (gI D_2 2 4), D_2)) else (if v1 = 5 then (some (.inr (gI D_2 2 5), D_2)) else (if v1 = 6 then (some (.inr (gI D_2 2 6), D_2)) else (if v1 = 7 then (some (.inr (gI D_2 2 7), D_2)) else (if v1 = 8 then (some (.inr (gI D_2 2 8), D_2)) else (if v1 = 9 then (some (.inr (gI D_2 2 9), D_2)) else (if v1 = 10 then (some (.inr (gI D_2 40 2), D_2)) else (if v1 = 11 then (some (.inr (gI D_2 40 3), D_2)) else (if v1 = 12 then (some (.inr (gI D_2 40 4), D_2)) else (if v1 = 13 then (some (.inr (gI D_2 0 1), D_2)) else (if v1 = 14 then (aGd (aIn 0 3) (some (.inr (gI D_2 47 (0 : Int32).toNatClampNeg), D_2))) else (if v1 = 15 then (aGd (aIn 1 3) (some (.inr (gI D_2 47 (1 : Int32).toNatClampNeg), D_2))) else (aGd (aIn 2 3) (some (.inr (gI D_2 47 (2 : Int32).toNatClampNeg), D_2))))))))))))))))))) else (aGd (aIn (v1 - 20) 5) (some (.inr (gI D_2 14 (v1 - 20).toNatClampNeg), D_2))))
def J_X11_count_26 (v1 : Int32) (D : aD) : Option ((String ⊕ Int32) × aD) :=
  J_X11_count_27 v1 0 D
def J_X11_count_22 (v1 : Int32) (D : aD) : Option ((String ⊕ Int32) × aD) :=
  J_X11_count_27 v1 1 D
def f_X11_count (v1 : Int32) (D : aD) : Option ((String ⊕ Int32) × aD) :=
  if v1 < 0 then (J_X11_count_26 v1 D) else (if v1 ≤ 16 then (J_X11_count_22 v1 D) else (if v1 < 20 then (J_X11_count_26 v1 D) else (if 25 ≤ v1 then (J_X11_count_26 v1 D) else (J_X11_count_22 v1 D))))
set_option maxRecDepth 100000 in
set_option maxHeartbeats 800000 in
theorem c_X11_count {G : aG} (hG : gOK G) {shp : List aSh} (hS : aShp shp) {fr : Option Nat} {v1 : Int32} {D : aD} {K : (String ⊕ Int32) → aD → Prop} (h : Ok2 (f_X11_count v1 D) K) : AC G (aRm 7 1 6) M_X11_count [.ref 0, .int v1] fr shp D (aQxi shp K) := by
  replace h := Ok2.ok h
  unfold f_X11_count at h
  refine AC.of (al := [some (.ref 0), some (.int v1)]) (r := 0) (by decide) (Nat.le_of_ble_eq_true rfl) rfl ?_
  have hJ_27 : ∀ (v1 : Int32) (t0 : Int32) (D : aD), Ok (J_X11_count_27 v1 t0 D) (fun r => K r.1 r.2) → AW G (aRm 7 1 6) M_X11_count fr 0 0 27 [some (.ref 0), some (.int v1)] [.int t0] shp D (aQxi shp K) := by
    intro v1 t0 D h
    unfold J_X11_count_27 at h
    refine aw_cSxv (M := M_X11_count) (n := 30) (As := [.int t0]) (rest := []) (kn := 1) (kn2 := 6) lk_RX11_121 rfl rfl (c_X11_need hG hS (h := Ok.try_ h)) (by decide) (Nat.le_of_ble_eq_true rfl) rfl rfl (by decide) (by decide) rfl dX11_count_27 rfl (fun E D hx => ⟨rfl, Or.inr ⟨E, rfl, hx⟩⟩) (fun y_1 D_2 h => ?_)
    refine aw_iload_n (n := 31) (i := 1) dX11_count_30 rfl rfl rfl ?_
    refine aw_bipush (n := 33) (v := 20) dX11_count_31 rfl (by decide) ?_
    refine aw_icmp_lt (n := 36) (tgt := 49) dX11_count_33 rfl (by decide) (fun c => ?_) (fun c => ?_)
    · replace h := Ok.ift h c
      refine aw_iload_n (n := 50) (i := 1) dX11_count_49 rfl rfl rfl ?_
      by_cases c0 : v1 = 0
      · replace h := Ok.ift h c0
        refine aw_tableIn (tgt := 128) dX11_count_50 (by rw [c0]; decide) (by rw [c0]; decide) (off := 78) (by rw [c0]; rfl) (by decide) ?_
        refine aw_aload_n (n := 129) (i := 0) dX11_count_128 rfl rfl rfl ?_
        refine aw_getR (n := 132) (j := 3) (r := 2) hG.1 fl_RX11_20 (sF_0 hS) rfl dX11_count_129 rfl ?_
        refine aw_getR (n := 135) (j := 0) (r := 3) hG.1 fl_RX11_128 (sF_2 hS) rfl dX11_count_132 rfl ?_
        refine aw_getI (n := 138) (j := 0) hG.1 fl_RX11_132 (sF_3 hS) rfl dX11_count_135 rfl ?_
        exact aw_iret rfl (by decide) (by decide) dX11_count_138 ⟨rfl, Or.inl ⟨_, rfl, (Ok.dn h :)⟩⟩
      replace h := Ok.iff h c0
      by_cases c1 : v1 = 1
      · replace h := Ok.ift h c1
        refine aw_tableIn (tgt := 139) dX11_count_50 (by rw [c1]; decide) (by rw [c1]; decide) (off := 89) (by rw [c1]; rfl) (by decide) ?_
        refine aw_aload_n (n := 140) (i := 0) dX11_count_139 rfl rfl rfl ?_
        refine aw_getR (n := 143) (j := 3) (r := 2) hG.1 fl_RX11_20 (sF_0 hS) rfl dX11_count_140 rfl ?_
        refine aw_getR (n := 146) (j := 0) (r := 3) hG.1 fl_RX11_128 (sF_2 hS) rfl dX11_count_143 rfl ?_
        refine aw_getI (n := 149) (j := 1) hG.1 fl_RX11_137 (sF_3 hS) rfl dX11_count_146 rfl ?_
        exact aw_iret rfl (by decide) (by decide) dX11_count_149 ⟨rfl, Or.inl ⟨_, rfl, (Ok.dn h :)⟩⟩
      replace h := Ok.iff h c1
      by_cases c2 : v1 = 2
      · replace h := Ok.ift h c2
        refine aw_tableIn (tgt := 150) dX11_count_50 (by rw [c2]; decide) (by rw [c2]; decide) (off := 100) (by rw [c2]; rfl) (by decide) ?_
        refine aw_aload_n (n := 151) (i := 0) dX11_count_150 rfl rfl rfl ?_
        refine aw_getR (n := 154) (j := 3) (r := 2) hG.1 fl_RX11_20 (sF_0 hS) rfl dX11_count_151 rfl ?_
        refine aw_getI (n := 157) (j := 2) hG.1 fl_RX11_140 (sF_2 hS) rfl dX11_count_154 rfl ?_
        exact aw_iret rfl (by decide) (by decide) dX11_count_157 ⟨rfl, Or.inl ⟨_, rfl, (Ok.dn h :)⟩⟩
      replace h := Ok.iff h c2
      by_cases c3 : v1 = 3
      · replace h := Ok.ift h c3
        refine aw_tableIn (tgt := 158) dX11_count_50 (by rw [c3]; decide) (by rw [c3]; decide) (off := 108) (by rw [c3]; rfl) (by decide) ?_
        refine aw_aload_n (n := 159) (i := 0) dX11_count_158 rfl rfl rfl ?_
        refine aw_getR (n := 162) (j := 3) (r := 2) hG.1 fl_RX11_20 (sF_0 hS) rfl dX11_count_159 rfl ?_
        refine aw_getI (n := 165) (j := 3) hG.1 fl_RX11_143 (sF_2 hS) rfl dX11_count_162 rfl ?_
        exact aw_iret rfl (by decide) (by decide) dX11_count_165 ⟨rfl, Or.inl ⟨_, rfl, (Ok.dn h :)⟩⟩
      replace h := Ok.iff h c3
      by_cases c4 : v1 = 4
      · replace h := Ok.ift h c4
        refine aw_tableIn (tgt := 166) dX11_count_50 (by rw [c4]; decide) (by rw [c4]; decide) (off := 116) (by rw [c4]; rfl) (by decide) ?_
        refine aw_aload_n (n := 167) (i := 0) dX11_count_166 rfl rfl rfl ?_
        refine aw_getR (n := 170) (j := 3) (r := 2) hG.1 fl_RX11_20 (sF_0 hS) rfl dX11_count_167 rfl ?_
        refine aw_getI (n := 173) (j := 4) hG.1 fl_RX11_146 (sF_2 hS) rfl dX11_count_170 rfl ?_
        exact aw_iret rfl (by decide) (by decide) dX11_count_173 ⟨rfl, Or.inl ⟨_, rfl, (Ok.dn h :)⟩⟩
      replace h := Ok.iff h c4
      by_cases c5 : v1 = 5
      · replace h := Ok.ift h c5
        refine aw_tableIn (tgt := 174) dX11_count_50 (by rw [c5]; decide) (by rw [c5]; decide) (off := 124) (by rw [c5]; rfl) (by decide) ?_
        refine aw_aload_n (n := 175) (i := 0) dX11_count_174 rfl rfl rfl ?_
        refine aw_getR (n := 178) (j := 3) (r := 2) hG.1 fl_RX11_20 (sF_0 hS) rfl dX11_count_175 rfl ?_
        refine aw_getI (n := 181) (j := 5) hG.1 fl_RX11_149 (sF_2 hS) rfl dX11_count_178 rfl ?_
        exact aw_iret rfl (by decide) (by decide) dX11_count_181 ⟨rfl, Or.inl ⟨_, rfl, (Ok.dn h :)⟩⟩
      replace h := Ok.iff h c5
      by_cases c6 : v1 = 6
      · replace h := Ok.ift h c6
        refine aw_tableIn (tgt := 182) dX11_count_50 (by rw [c6]; decide) (by rw [c6]; decide) (off := 132) (by rw [c6]; rfl) (by decide) ?_
        refine aw_aload_n (n := 183) (i := 0) dX11_count_182 rfl rfl rfl ?_
        refine aw_getR (n := 186) (j := 3) (r := 2) hG.1 fl_RX11_20 (sF_0 hS) rfl dX11_count_183 rfl ?_
        refine aw_getI (n := 189) (j := 6) hG.1 fl_RX11_152 (sF_2 hS) rfl dX11_count_186 rfl ?_
        exact aw_iret rfl (by decide) (by decide) dX11_count_189 ⟨rfl, Or.inl ⟨_, rfl, (Ok.dn h :)⟩⟩
      replace h := Ok.iff h c6
      by_cases c7 : v1 = 7
      · replace h := Ok.ift h c7
        refine aw_tableIn (tgt := 190) dX11_count_50 (by rw [c7]; decide) (by rw [c7]; decide) (off := 140) (by rw [c7]; rfl) (by decide) ?_
        refine aw_aload_n (n := 191) (i := 0) dX11_count_190 rfl rfl rfl ?_
        refine aw_getR (n := 194) (j := 3) (r := 2) hG.1 fl_RX11_20 (sF_0 hS) rfl dX11_count_191 rfl ?_
        refine aw_getI (n := 197) (j := 7) hG.1 fl_RX11_155 (sF_2 hS) rfl dX11_count_194 rfl ?_
        exact aw_iret rfl (by decide) (by decide) dX11_count_197 ⟨rfl, Or.inl ⟨_, rfl, (Ok.dn h :)⟩⟩
      replace h := Ok.iff h c7
      by_cases c8 : v1 = 8
      · replace h := Ok.ift h c8
        refine aw_tableIn (tgt := 198) dX11_count_50 (by rw [c8]; decide) (by rw [c8]; decide) (off := 148) (by rw [c8]; rfl) (by decide) ?_
        refine aw_aload_n (n := 199) (i := 0) dX11_count_198 rfl rfl rfl ?_
        refine aw_getR (n := 202) (j := 3) (r := 2) hG.1 fl_RX11_20 (sF_0 hS) rfl dX11_count_199 rfl ?_
        refine aw_getI (n := 205) (j := 8) hG.1 fl_RX11_158 (sF_2 hS) rfl dX11_count_202 rfl ?_
        exact aw_iret rfl (by decide) (by decide) dX11_count_205 ⟨rfl, Or.inl ⟨_, rfl, (Ok.dn h :)⟩⟩
      replace h := Ok.iff h c8
      by_cases c9 : v1 = 9
      · replace h := Ok.ift h c9
        refine aw_tableIn (tgt := 206) dX11_count_50 (by rw [c9]; decide) (by rw [c9]; decide) (off := 156) (by rw [c9]; rfl) (by decide) ?_
        refine aw_aload_n (n := 207) (i := 0) dX11_count_206 rfl rfl rfl ?_
        refine aw_getR (n := 210) (j := 3) (r := 2) hG.1 fl_RX11_20 (sF_0 hS) rfl dX11_count_207 rfl ?_
        refine aw_getI (n := 213) (j := 9) hG.1 fl_RX11_161 (sF_2 hS) rfl dX11_count_210 rfl ?_
        exact aw_iret rfl (by decide) (by decide) dX11_count_213 ⟨rfl, Or.inl ⟨_, rfl, (Ok.dn h :)⟩⟩
      replace h := Ok.iff h c9
      by_cases c10 : v1 = 10
      · replace h := Ok.ift h c10
        refine aw_tableIn (tgt := 214) dX11_count_50 (by rw [c10]; decide) (by rw [c10]; decide) (off := 164) (by rw [c10]; rfl) (by decide) ?_
        refine aw_aload_n (n := 215) (i := 0) dX11_count_214 rfl rfl rfl ?_
        refine aw_getR (n := 218) (j := 5) (r := 40) hG.1 fl_RX11_30 (sF_0 hS) rfl dX11_count_215 rfl ?_
        refine aw_getI (n := 221) (j := 2) hG.1 fl_RX11_164 (sF_40 hS) rfl dX11_count_218 rfl ?_
        exact aw_iret rfl (by decide) (by decide) dX11_count_221 ⟨rfl, Or.inl ⟨_, rfl, (Ok.dn h :)⟩⟩
      replace h := Ok.iff h c10
      by_cases c11 : v1 = 11
      · replace h := Ok.ift h c11
        refine aw_tableIn (tgt := 222) dX11_count_50 (by rw [c11]; decide) (by rw [c11]; decide) (off := 172) (by rw [c11]; rfl) (by decide) ?_
        refine aw_aload_n (n := 223) (i := 0) dX11_count_222 rfl rfl rfl ?_
        refine aw_getR (n := 226) (j := 5) (r := 40) hG.1 fl_RX11_30 (sF_0 hS) rfl dX11_count_223 rfl ?_
        refine aw_getI (n := 229) (j := 3) hG.1 fl_RX11_167 (sF_40 hS) rfl dX11_count_226 rfl ?_
        exact aw_iret rfl (by decide) (by decide) dX11_count_229 ⟨rfl, Or.inl ⟨_, rfl, (Ok.dn h :)⟩⟩
      replace h := Ok.iff h c11
      by_cases c12 : v1 = 12
      · replace h := Ok.ift h c12
        refine aw_tableIn (tgt := 230) dX11_count_50 (by rw [c12]; decide) (by rw [c12]; decide) (off := 180) (by rw [c12]; rfl) (by decide) ?_
        refine aw_aload_n (n := 231) (i := 0) dX11_count_230 rfl rfl rfl ?_
        refine aw_getR (n := 234) (j := 5) (r := 40) hG.1 fl_RX11_30 (sF_0 hS) rfl dX11_count_231 rfl ?_
        refine aw_getI (n := 237) (j := 4) hG.1 fl_RX11_170 (sF_40 hS) rfl dX11_count_234 rfl ?_
        exact aw_iret rfl (by decide) (by decide) dX11_count_237 ⟨rfl, Or.inl ⟨_, rfl, (Ok.dn h :)⟩⟩
      replace h := Ok.iff h c12
      by_cases c13 : v1 = 13
      · replace h := Ok.ift h c13
        refine aw_tableIn (tgt := 238) dX11_count_50 (by rw [c13]; decide) (by rw [c13]; decide) (off := 188) (by rw [c13]; rfl) (by decide) ?_
        refine aw_aload_n (n := 239) (i := 0) dX11_count_238 rfl rfl rfl ?_
        refine aw_getI (n := 242) (j := 1) hG.1 fl_RX11_87 (sF_0 hS) rfl dX11_count_239 rfl ?_
        exact aw_iret rfl (by decide) (by decide) dX11_count_242 ⟨rfl, Or.inl ⟨_, rfl, (Ok.dn h :)⟩⟩
      replace h := Ok.iff h c13
      by_cases c14 : v1 = 14
      · replace h := Ok.ift h c14
        refine aw_tableIn (tgt := 243) dX11_count_50 (by rw [c14]; decide) (by rw [c14]; decide) (off := 193) (by rw [c14]; rfl) (by decide) ?_
        refine aw_aload_n (n := 244) (i := 0) dX11_count_243 rfl rfl rfl ?_
        refine aw_getR (n := 247) (j := 5) (r := 40) hG.1 fl_RX11_30 (sF_0 hS) rfl dX11_count_244 rfl ?_
        refine aw_getR (n := 250) (j := 9) (r := 47) hG.1 fl_RX11_106 (sF_40 hS) rfl dX11_count_247 rfl ?_
        refine aw_iconst (n := 251) (v := 0) dX11_count_250 rfl (by decide) ?_
        obtain ⟨g_3, h⟩ := Ok.gd h
        refine aw_iaload (n := 252) hG.1 (sF_47 hS) (aIn_in g_3) dX11_count_251 rfl ?_
        exact aw_iret rfl (by decide) (by decide) dX11_count_252 ⟨rfl, Or.inl ⟨_, rfl, (Ok.dn h :)⟩⟩
      replace h := Ok.iff h c14
      by_cases c15 : v1 = 15
      · replace h := Ok.ift h c15
        refine aw_tableIn (tgt := 253) dX11_count_50 (by rw [c15]; decide) (by rw [c15]; decide) (off := 203) (by rw [c15]; rfl) (by decide) ?_
        refine aw_aload_n (n := 254) (i := 0) dX11_count_253 rfl rfl rfl ?_
        refine aw_getR (n := 257) (j := 5) (r := 40) hG.1 fl_RX11_30 (sF_0 hS) rfl dX11_count_254 rfl ?_
        refine aw_getR (n := 260) (j := 9) (r := 47) hG.1 fl_RX11_106 (sF_40 hS) rfl dX11_count_257 rfl ?_
        refine aw_iconst (n := 261) (v := 1) dX11_count_260 rfl (by decide) ?_
        obtain ⟨g_4, h⟩ := Ok.gd h
        refine aw_iaload (n := 262) hG.1 (sF_47 hS) (aIn_in g_4) dX11_count_261 rfl ?_
        exact aw_iret rfl (by decide) (by decide) dX11_count_262 ⟨rfl, Or.inl ⟨_, rfl, (Ok.dn h :)⟩⟩
      replace h := Ok.iff h c15
      refine aw_tableOut (tgt := 263) dX11_count_50 (sw_out (lo := 0) (hi := 15) (fun n h1 h2 => ?_)) (by decide) ?_
      · rcases (by omega : n = 0 ∨ n = 1 ∨ n = 2 ∨ n = 3 ∨ n = 4 ∨ n = 5 ∨ n = 6 ∨ n = 7 ∨ n = 8 ∨ n = 9 ∨ n = 10 ∨ n = 11 ∨ n = 12 ∨ n = 13 ∨ n = 14 ∨ n = 15) with rfl | rfl | rfl | rfl | rfl | rfl | rfl | rfl | rfl | rfl | rfl | rfl | rfl | rfl | rfl | rfl
        · exact sw_at (by decide) c0
        · exact sw_at (by decide) c1
        · exact sw_at (by decide) c2
        · exact sw_at (by decide) c3
        · exact sw_at (by decide) c4
        · exact sw_at (by decide) c5
        · exact sw_at (by decide) c6
        · exact sw_at (by decide) c7
        · exact sw_at (by decide) c8
        · exact sw_at (by decide) c9
        · exact sw_at (by decide) c10
        · exact sw_at (by decide) c11
        · exact sw_at (by decide) c12
        · exact sw_at (by decide) c13
        · exact sw_at (by decide) c14
        · exact sw_at (by decide) c15
      refine aw_aload_n (n := 264) (i := 0) dX11_count_263 rfl rfl rfl ?_
      refine aw_getR (n := 267) (j := 5) (r := 40) hG.1 fl_RX11_30 (sF_0 hS) rfl dX11_count_264 rfl ?_
      refine aw_getR (n := 270) (j := 9) (r := 47) hG.1 fl_RX11_106 (sF_40 hS) rfl dX11_count_267 rfl ?_
      refine aw_iconst (n := 271) (v := 2) dX11_count_270 rfl (by decide) ?_
      obtain ⟨g_5, h⟩ := Ok.gd h
      refine aw_iaload (n := 272) hG.1 (sF_47 hS) (aIn_in g_5) dX11_count_271 rfl ?_
      exact aw_iret rfl (by decide) (by decide) dX11_count_272 ⟨rfl, Or.inl ⟨_, rfl, (Ok.dn h :)⟩⟩
    · replace h := Ok.iff h c
      refine aw_aload_n (n := 37) (i := 0) dX11_count_36 rfl rfl rfl ?_
      refine aw_getR (n := 40) (j := 3) (r := 2) hG.1 fl_RX11_20 (sF_0 hS) rfl dX11_count_37 rfl ?_
      refine aw_getR (n := 43) (j := 16) (r := 14) hG.1 fl_RX11_125 (sF_2 hS) rfl dX11_count_40 rfl ?_
      refine aw_iload_n (n := 44) (i := 1) dX11_count_43 rfl rfl rfl ?_
      refine aw_bipush (n := 46) (v := 20) dX11_count_44 rfl (by decide) ?_
      refine aw_isub (n := 47) dX11_count_46 rfl ?_
      obtain ⟨g_6, h⟩ := Ok.gd h
      refine aw_iaload (n := 48) hG.1 (sF_14 hS) (aIn_in g_6) dX11_count_47 rfl ?_
      exact aw_iret rfl (by decide) (by decide) dX11_count_48 ⟨rfl, Or.inl ⟨_, rfl, (Ok.dn h :)⟩⟩
  have hJ_22 : ∀ (v1 : Int32) (D : aD), Ok (J_X11_count_22 v1 D) (fun r => K r.1 r.2) → AW G (aRm 7 1 6) M_X11_count fr 0 0 22 [some (.ref 0), some (.int v1)] [] shp D (aQxi shp K) := by
    intro v1 D h
    unfold J_X11_count_22 at h
    refine aw_iconst (n := 23) (v := 1) dX11_count_22 rfl (by decide) ?_
    refine aw_goto (tgt := 27) dX11_count_23 (by decide) ?_
    exact aw_wid (by decide) (by decide) <| aw_le' (hJ_27 v1 1 D h) ⟨rfl, ⟨rfl, trivial⟩⟩
  have hJ_26 : ∀ (v1 : Int32) (D : aD), Ok (J_X11_count_26 v1 D) (fun r => K r.1 r.2) → AW G (aRm 7 1 6) M_X11_count fr 0 0 26 [some (.ref 0), some (.int v1)] [] shp D (aQxi shp K) := by
    intro v1 D h
    unfold J_X11_count_26 at h
    refine aw_iconst (n := 27) (v := 0) dX11_count_26 rfl (by decide) ?_
    exact aw_wid (by decide) (by decide) <| aw_le' (hJ_27 v1 0 D h) ⟨rfl, ⟨rfl, trivial⟩⟩
  refine aw_iload_n (n := 1) (i := 1) dX11_count_0 rfl rfl rfl ?_
  refine aw_if_lt (n := 4) (tgt := 26) dX11_count_1 rfl (by decide) (fun c => ?_) (fun c => ?_)
  · replace h := Ok.ift h c
    exact aw_wid (by decide) (by decide) <| aw_le' (hJ_26 v1 D h) ⟨rfl, ⟨rfl, trivial⟩⟩
  · replace h := Ok.iff h c
    refine aw_iload_n (n := 5) (i := 1) dX11_count_4 rfl rfl rfl ?_
    refine aw_bipush (n := 7) (v := 16) dX11_count_5 rfl (by decide) ?_
    refine aw_icmp_le (n := 10) (tgt := 22) dX11_count_7 rfl (by decide) (fun c => ?_) (fun c => ?_)
    · replace h := Ok.ift h c
      exact aw_wid (by decide) (by decide) <| aw_le' (hJ_22 v1 D h) ⟨rfl, ⟨rfl, trivial⟩⟩
    · replace h := Ok.iff h c
      refine aw_iload_n (n := 11) (i := 1) dX11_count_10 rfl rfl rfl ?_
      refine aw_bipush (n := 13) (v := 20) dX11_count_11 rfl (by decide) ?_
      refine aw_icmp_lt (n := 16) (tgt := 26) dX11_count_13 rfl (by decide) (fun c => ?_) (fun c => ?_)
      · replace h := Ok.ift h c
        exact aw_wid (by decide) (by decide) <| aw_le' (hJ_26 v1 D h) ⟨rfl, ⟨rfl, trivial⟩⟩
      · replace h := Ok.iff h c
        refine aw_iload_n (n := 17) (i := 1) dX11_count_16 rfl rfl rfl ?_
        refine aw_bipush (n := 19) (v := 25) dX11_count_17 rfl (by decide) ?_
        refine aw_icmp_ge (n := 22) (tgt := 26) dX11_count_19 rfl (by decide) (fun c => ?_) (fun c => ?_)
        · replace h := Ok.ift h c
          exact aw_wid (by decide) (by decide) <| aw_le' (hJ_26 v1 D h) ⟨rfl, ⟨rfl, trivial⟩⟩
        · replace h := Ok.iff h c
          exact aw_wid (by decide) (by decide) <| aw_le' (hJ_22 v1 D h) ⟨rfl, ⟨rfl, trivial⟩⟩
theorem dX11_isBelow_0 : decode cX11_isBelow 0 = .ok (.iload_n 0, 1) := by decide +kernel
theorem dX11_isBelow_1 : decode cX11_isBelow 1 = .ok (.ifCond .lt 12, 3) := by decide +kernel
theorem dX11_isBelow_4 : decode cX11_isBelow 4 = .ok (.iload_n 0, 1) := by decide +kernel
theorem dX11_isBelow_5 : decode cX11_isBelow 5 = .ok (.iload_n 1, 1) := by decide +kernel
theorem dX11_isBelow_6 : decode cX11_isBelow 6 = .ok (.if_icmp .ge 7, 3) := by decide +kernel
theorem dX11_isBelow_9 : decode cX11_isBelow 9 = .ok (.iconst 1, 1) := by decide +kernel
theorem dX11_isBelow_10 : decode cX11_isBelow 10 = .ok (.goto 4, 3) := by decide +kernel
theorem dX11_isBelow_13 : decode cX11_isBelow 13 = .ok (.iconst 0, 1) := by decide +kernel
theorem dX11_isBelow_14 : decode cX11_isBelow 14 = .ok (.ireturn, 1) := by decide +kernel
def f_X11_isBelow (v0 : Int32) (v1 : Int32) (D : aD) : Option (Int32 × aD) :=
  if v0 < 0 then (some (0, D)) else (if v1 ≤ v0 then (some (0, D)) else (some (1, D)))
set_option maxRecDepth 100000 in
set_option maxHeartbeats 800000 in
theorem c_X11_isBelow {G : aG} (hG : gOK G) {shp : List aSh} (hS : aShp shp) {fr : Option Nat} {v0 : Int32} {v1 : Int32} {D : aD} {K : Int32 → aD → Prop} (h : Ok2 (f_X11_isBelow v0 v1 D) K) : AC G (aRm 1 0 0) M_X11_isBelow [.int v0, .int v1] fr shp D (aQi shp K) := by
  replace h := Ok2.ok h
  unfold f_X11_isBelow at h
  refine AC.of (al := [some (.int v0), some (.int v1)]) (r := 0) (by decide) (Nat.le_of_ble_eq_true rfl) rfl ?_
  refine aw_iload_n (n := 1) (i := 0) dX11_isBelow_0 rfl rfl rfl ?_
  refine aw_if_lt (n := 4) (tgt := 13) dX11_isBelow_1 rfl (by decide) (fun c => ?_) (fun c => ?_)
  · replace h := Ok.ift h c
    refine aw_iconst (n := 14) (v := 0) dX11_isBelow_13 rfl (by decide) ?_
    exact aw_zret rfl (by decide) (by decide) (by decide) dX11_isBelow_14 ⟨_, rfl, rfl, (Ok.dn h :)⟩
  · replace h := Ok.iff h c
    refine aw_iload_n (n := 5) (i := 0) dX11_isBelow_4 rfl rfl rfl ?_
    refine aw_iload_n (n := 6) (i := 1) dX11_isBelow_5 rfl rfl rfl ?_
    refine aw_icmp_ge (n := 9) (tgt := 13) dX11_isBelow_6 rfl (by decide) (fun c => ?_) (fun c => ?_)
    · replace h := Ok.ift h c
      refine aw_iconst (n := 14) (v := 0) dX11_isBelow_13 rfl (by decide) ?_
      exact aw_zret rfl (by decide) (by decide) (by decide) dX11_isBelow_14 ⟨_, rfl, rfl, (Ok.dn h :)⟩
    · replace h := Ok.iff h c
      refine aw_iconst (n := 10) (v := 1) dX11_isBelow_9 rfl (by decide) ?_
      refine aw_goto (tgt := 14) dX11_isBelow_10 (by decide) ?_
      exact aw_zret rfl (by decide) (by decide) (by decide) dX11_isBelow_14 ⟨_, rfl, rfl, (Ok.dn h :)⟩
theorem dX11_plant_0 : decode cX11_plant 0 = .ok (.iload_n 1, 1) := by decide +kernel
theorem dX11_plant_1 : decode cX11_plant 1 = .ok (.aload_n 0, 1) := by decide +kernel
theorem dX11_plant_2 : decode cX11_plant 2 = .ok (.getfield 20, 3) := by decide +kernel
theorem dX11_plant_5 : decode cX11_plant 5 = .ok (.getfield 146, 3) := by decide +kernel
theorem dX11_plant_8 : decode cX11_plant 8 = .ok (.invokestatic 173, 3) := by decide +kernel
theorem dX11_plant_11 : decode cX11_plant 11 = .ok (.ifCond .eq 15, 3) := by decide +kernel
theorem dX11_plant_14 : decode cX11_plant 14 = .ok (.iload_n 2, 1) := by decide +kernel
theorem dX11_plant_15 : decode cX11_plant 15 = .ok (.iconst 4, 1) := by decide +kernel
theorem dX11_plant_16 : decode cX11_plant 16 = .ok (.invokestatic 173, 3) := by decide +kernel
theorem dX11_plant_19 : decode cX11_plant 19 = .ok (.ifCond .eq 7, 3) := by decide +kernel
theorem dX11_plant_22 : decode cX11_plant 22 = .ok (.iconst 1, 1) := by decide +kernel
theorem dX11_plant_23 : decode cX11_plant 23 = .ok (.goto 4, 3) := by decide +kernel
theorem dX11_plant_26 : decode cX11_plant 26 = .ok (.iconst 0, 1) := by decide +kernel
theorem dX11_plant_27 : decode cX11_plant 27 = .ok (.invokestatic 121, 3) := by decide +kernel
theorem dX11_plant_30 : decode cX11_plant 30 = .ok (.iload_n 2, 1) := by decide +kernel
theorem dX11_plant_31 : decode cX11_plant 31 = .ok (.tableswitch 55 0 2 #[25, 35, 45], 25) := by decide +kernel
theorem dX11_plant_56 : decode cX11_plant 56 = .ok (.aload_n 0, 1) := by decide +kernel
theorem dX11_plant_57 : decode cX11_plant 57 = .ok (.getfield 20, 3) := by decide +kernel
theorem dX11_plant_60 : decode cX11_plant 60 = .ok (.getfield 177, 3) := by decide +kernel
theorem dX11_plant_63 : decode cX11_plant 63 = .ok (.iload_n 1, 1) := by decide +kernel
theorem dX11_plant_64 : decode cX11_plant 64 = .ok (.iaload, 1) := by decide +kernel
theorem dX11_plant_65 : decode cX11_plant 65 = .ok (.ireturn, 1) := by decide +kernel
theorem dX11_plant_66 : decode cX11_plant 66 = .ok (.aload_n 0, 1) := by decide +kernel
theorem dX11_plant_67 : decode cX11_plant 67 = .ok (.getfield 20, 3) := by decide +kernel
theorem dX11_plant_70 : decode cX11_plant 70 = .ok (.getfield 180, 3) := by decide +kernel
theorem dX11_plant_73 : decode cX11_plant 73 = .ok (.iload_n 1, 1) := by decide +kernel
theorem dX11_plant_74 : decode cX11_plant 74 = .ok (.iaload, 1) := by decide +kernel
theorem dX11_plant_75 : decode cX11_plant 75 = .ok (.ireturn, 1) := by decide +kernel
theorem dX11_plant_76 : decode cX11_plant 76 = .ok (.aload_n 0, 1) := by decide +kernel
theorem dX11_plant_77 : decode cX11_plant 77 = .ok (.getfield 20, 3) := by decide +kernel
theorem dX11_plant_80 : decode cX11_plant 80 = .ok (.getfield 183, 3) := by decide +kernel
theorem dX11_plant_83 : decode cX11_plant 83 = .ok (.iload_n 1, 1) := by decide +kernel
theorem dX11_plant_84 : decode cX11_plant 84 = .ok (.iaload, 1) := by decide +kernel
theorem dX11_plant_85 : decode cX11_plant 85 = .ok (.ireturn, 1) := by decide +kernel
theorem dX11_plant_86 : decode cX11_plant 86 = .ok (.aload_n 0, 1) := by decide +kernel
theorem dX11_plant_87 : decode cX11_plant 87 = .ok (.getfield 30, 3) := by decide +kernel
theorem dX11_plant_90 : decode cX11_plant 90 = .ok (.getfield 186, 3) := by decide +kernel
theorem dX11_plant_93 : decode cX11_plant 93 = .ok (.iload_n 1, 1) := by decide +kernel
theorem dX11_plant_94 : decode cX11_plant 94 = .ok (.iaload, 1) := by decide +kernel
theorem dX11_plant_95 : decode cX11_plant 95 = .ok (.ireturn, 1) := by decide +kernel
def J_X11_plant_27 (v1 : Int32) (v2 : Int32) (t0 : Int32) (D : aD) : Option ((String ⊕ Int32) × aD) :=
  aTry (f_X11_need t0 D) (fun y_3 D_4 => if v2 = 0 then (aGd (aIn v1 12) (some (.inr (gI D_4 8 v1.toNatClampNeg), D_4))) else (if v2 = 1 then (aGd (aIn v1 12) (some (.inr (gI D_4 9 v1.toNatClampNeg), D_4))) else (if v2 = 2 then (aGd (aIn v1 12) (some (.inr (gI D_4 10 v1.toNatClampNeg), D_4))) else (aGd (aIn v1 12) (some (.inr (gI D_4 41 v1.toNatClampNeg), D_4))))))
def J_X11_plant_26 (v1 : Int32) (v2 : Int32) (D : aD) : Option ((String ⊕ Int32) × aD) :=
  J_X11_plant_27 v1 v2 0 D
def f_X11_plant (v1 : Int32) (v2 : Int32) (D : aD) : Option ((String ⊕ Int32) × aD) :=
  aBi (f_X11_isBelow v1 (gI D 2 4) D) (fun y_1 D_2 => if y_1 = 0 then (J_X11_plant_26 v1 v2 D_2) else (aBi (f_X11_isBelow v2 4 D_2) (fun y_9 D_10 => if y_9 = 0 then (J_X11_plant_26 v1 v2 D_10) else (J_X11_plant_27 v1 v2 1 D_10))))
set_option maxRecDepth 100000 in
set_option maxHeartbeats 800000 in
theorem c_X11_plant {G : aG} (hG : gOK G) {shp : List aSh} (hS : aShp shp) {fr : Option Nat} {v1 : Int32} {v2 : Int32} {D : aD} {K : (String ⊕ Int32) → aD → Prop} (h : Ok2 (f_X11_plant v1 v2 D) K) : AC G (aRm 7 1 6) M_X11_plant [.ref 0, .int v1, .int v2] fr shp D (aQxi shp K) := by
  replace h := Ok2.ok h
  unfold f_X11_plant at h
  refine AC.of (al := [some (.ref 0), some (.int v1), some (.int v2)]) (r := 0) (by decide) (Nat.le_of_ble_eq_true rfl) rfl ?_
  have hJ_27 : ∀ (v1 : Int32) (v2 : Int32) (t0 : Int32) (D : aD), Ok (J_X11_plant_27 v1 v2 t0 D) (fun r => K r.1 r.2) → AW G (aRm 7 1 6) M_X11_plant fr 0 0 27 [some (.ref 0), some (.int v1), some (.int v2)] [.int t0] shp D (aQxi shp K) := by
    intro v1 v2 t0 D h
    unfold J_X11_plant_27 at h
    refine aw_cSxv (M := M_X11_plant) (n := 30) (As := [.int t0]) (rest := []) (kn := 1) (kn2 := 6) lk_RX11_121 rfl rfl (c_X11_need hG hS (h := Ok.try_ h)) (by decide) (Nat.le_of_ble_eq_true rfl) rfl rfl (by decide) (by decide) rfl dX11_plant_27 rfl (fun E D hx => ⟨rfl, Or.inr ⟨E, rfl, hx⟩⟩) (fun y_3 D_4 h => ?_)
    refine aw_iload_n (n := 31) (i := 2) dX11_plant_30 rfl rfl rfl ?_
    by_cases c0 : v2 = 0
    · replace h := Ok.ift h c0
      refine aw_tableIn (tgt := 56) dX11_plant_31 (by rw [c0]; decide) (by rw [c0]; decide) (off := 25) (by rw [c0]; rfl) (by decide) ?_
      refine aw_aload_n (n := 57) (i := 0) dX11_plant_56 rfl rfl rfl ?_
      refine aw_getR (n := 60) (j := 3) (r := 2) hG.1 fl_RX11_20 (sF_0 hS) rfl dX11_plant_57 rfl ?_
      refine aw_getR (n := 63) (j := 10) (r := 8) hG.1 fl_RX11_177 (sF_2 hS) rfl dX11_plant_60 rfl ?_
      refine aw_iload_n (n := 64) (i := 1) dX11_plant_63 rfl rfl rfl ?_
      obtain ⟨g_5, h⟩ := Ok.gd h
      refine aw_iaload (n := 65) hG.1 (sF_8 hS) (aIn_in g_5) dX11_plant_64 rfl ?_
      exact aw_iret rfl (by decide) (by decide) dX11_plant_65 ⟨rfl, Or.inl ⟨_, rfl, (Ok.dn h :)⟩⟩
    replace h := Ok.iff h c0
    by_cases c1 : v2 = 1
    · replace h := Ok.ift h c1
      refine aw_tableIn (tgt := 66) dX11_plant_31 (by rw [c1]; decide) (by rw [c1]; decide) (off := 35) (by rw [c1]; rfl) (by decide) ?_
      refine aw_aload_n (n := 67) (i := 0) dX11_plant_66 rfl rfl rfl ?_
      refine aw_getR (n := 70) (j := 3) (r := 2) hG.1 fl_RX11_20 (sF_0 hS) rfl dX11_plant_67 rfl ?_
      refine aw_getR (n := 73) (j := 11) (r := 9) hG.1 fl_RX11_180 (sF_2 hS) rfl dX11_plant_70 rfl ?_
      refine aw_iload_n (n := 74) (i := 1) dX11_plant_73 rfl rfl rfl ?_
      obtain ⟨g_6, h⟩ := Ok.gd h
      refine aw_iaload (n := 75) hG.1 (sF_9 hS) (aIn_in g_6) dX11_plant_74 rfl ?_
      exact aw_iret rfl (by decide) (by decide) dX11_plant_75 ⟨rfl, Or.inl ⟨_, rfl, (Ok.dn h :)⟩⟩
    replace h := Ok.iff h c1
    by_cases c2 : v2 = 2
    · replace h := Ok.ift h c2
      refine aw_tableIn (tgt := 76) dX11_plant_31 (by rw [c2]; decide) (by rw [c2]; decide) (off := 45) (by rw [c2]; rfl) (by decide) ?_
      refine aw_aload_n (n := 77) (i := 0) dX11_plant_76 rfl rfl rfl ?_
      refine aw_getR (n := 80) (j := 3) (r := 2) hG.1 fl_RX11_20 (sF_0 hS) rfl dX11_plant_77 rfl ?_
      refine aw_getR (n := 83) (j := 12) (r := 10) hG.1 fl_RX11_183 (sF_2 hS) rfl dX11_plant_80 rfl ?_
      refine aw_iload_n (n := 84) (i := 1) dX11_plant_83 rfl rfl rfl ?_
      obtain ⟨g_7, h⟩ := Ok.gd h
      refine aw_iaload (n := 85) hG.1 (sF_10 hS) (aIn_in g_7) dX11_plant_84 rfl ?_
      exact aw_iret rfl (by decide) (by decide) dX11_plant_85 ⟨rfl, Or.inl ⟨_, rfl, (Ok.dn h :)⟩⟩
    replace h := Ok.iff h c2
    refine aw_tableOut (tgt := 86) dX11_plant_31 (sw_out (lo := 0) (hi := 2) (fun n h1 h2 => ?_)) (by decide) ?_
    · rcases (by omega : n = 0 ∨ n = 1 ∨ n = 2) with rfl | rfl | rfl
      · exact sw_at (by decide) c0
      · exact sw_at (by decide) c1
      · exact sw_at (by decide) c2
    refine aw_aload_n (n := 87) (i := 0) dX11_plant_86 rfl rfl rfl ?_
    refine aw_getR (n := 90) (j := 5) (r := 40) hG.1 fl_RX11_30 (sF_0 hS) rfl dX11_plant_87 rfl ?_
    refine aw_getR (n := 93) (j := 0) (r := 41) hG.1 fl_RX11_186 (sF_40 hS) rfl dX11_plant_90 rfl ?_
    refine aw_iload_n (n := 94) (i := 1) dX11_plant_93 rfl rfl rfl ?_
    obtain ⟨g_8, h⟩ := Ok.gd h
    refine aw_iaload (n := 95) hG.1 (sF_41 hS) (aIn_in g_8) dX11_plant_94 rfl ?_
    exact aw_iret rfl (by decide) (by decide) dX11_plant_95 ⟨rfl, Or.inl ⟨_, rfl, (Ok.dn h :)⟩⟩
  have hJ_26 : ∀ (v1 : Int32) (v2 : Int32) (D : aD), Ok (J_X11_plant_26 v1 v2 D) (fun r => K r.1 r.2) → AW G (aRm 7 1 6) M_X11_plant fr 0 0 26 [some (.ref 0), some (.int v1), some (.int v2)] [] shp D (aQxi shp K) := by
    intro v1 v2 D h
    unfold J_X11_plant_26 at h
    refine aw_iconst (n := 27) (v := 0) dX11_plant_26 rfl (by decide) ?_
    exact aw_wid (by decide) (by decide) <| aw_le' (hJ_27 v1 v2 0 D h) ⟨rfl, ⟨rfl, ⟨rfl, trivial⟩⟩⟩
  refine aw_iload_n (n := 1) (i := 1) dX11_plant_0 rfl rfl rfl ?_
  refine aw_aload_n (n := 2) (i := 0) dX11_plant_1 rfl rfl rfl ?_
  refine aw_getR (n := 5) (j := 3) (r := 2) hG.1 fl_RX11_20 (sF_0 hS) rfl dX11_plant_2 rfl ?_
  refine aw_getI (n := 8) (j := 4) hG.1 fl_RX11_146 (sF_2 hS) rfl dX11_plant_5 rfl ?_
  refine aw_cSi (M := M_X11_plant) (n := 11) (As := [.int v1, .int (gI D 2 4)]) (rest := []) lk_RX11_173 rfl rfl (c_X11_isBelow hG hS (h := Ok.bi h)) (by decide) (Nat.le_of_ble_eq_true rfl) (by decide) (by decide) dX11_plant_8 rfl (fun y_1 D_2 h => ?_)
  refine aw_if_eq (n := 14) (tgt := 26) dX11_plant_11 rfl (by decide) (fun c => ?_) (fun c => ?_)
  · replace h := Ok.ift h c
    exact aw_wid (by decide) (by decide) <| aw_le' (hJ_26 v1 v2 D_2 h) ⟨rfl, ⟨rfl, ⟨rfl, trivial⟩⟩⟩
  · replace h := Ok.iff h c
    refine aw_iload_n (n := 15) (i := 2) dX11_plant_14 rfl rfl rfl ?_
    refine aw_iconst (n := 16) (v := 4) dX11_plant_15 rfl (by decide) ?_
    refine aw_cSi (M := M_X11_plant) (n := 19) (As := [.int v2, .int 4]) (rest := []) lk_RX11_173 rfl rfl (c_X11_isBelow hG hS (h := Ok.bi h)) (by decide) (Nat.le_of_ble_eq_true rfl) (by decide) (by decide) dX11_plant_16 rfl (fun y_9 D_10 h => ?_)
    refine aw_if_eq (n := 22) (tgt := 26) dX11_plant_19 rfl (by decide) (fun c => ?_) (fun c => ?_)
    · replace h := Ok.ift h c
      exact aw_wid (by decide) (by decide) <| aw_le' (hJ_26 v1 v2 D_10 h) ⟨rfl, ⟨rfl, ⟨rfl, trivial⟩⟩⟩
    · replace h := Ok.iff h c
      refine aw_iconst (n := 23) (v := 1) dX11_plant_22 rfl (by decide) ?_
      refine aw_goto (tgt := 27) dX11_plant_23 (by decide) ?_
      exact aw_wid (by decide) (by decide) <| aw_le' (hJ_27 v1 v2 1 D_10 h) ⟨rfl, ⟨rfl, ⟨rfl, trivial⟩⟩⟩
theorem dX11_turn_0 : decode cX11_turn 0 = .ok (.iload_n 1, 1) := by decide +kernel
theorem dX11_turn_1 : decode cX11_turn 1 = .ok (.aload_n 0, 1) := by decide +kernel
theorem dX11_turn_2 : decode cX11_turn 2 = .ok (.getfield 20, 3) := by decide +kernel
theorem dX11_turn_5 : decode cX11_turn 5 = .ok (.getfield 146, 3) := by decide +kernel
theorem dX11_turn_8 : decode cX11_turn 8 = .ok (.invokestatic 173, 3) := by decide +kernel
theorem dX11_turn_11 : decode cX11_turn 11 = .ok (.invokestatic 121, 3) := by decide +kernel
theorem dX11_turn_14 : decode cX11_turn 14 = .ok (.iload_n 2, 1) := by decide +kernel
theorem dX11_turn_15 : decode cX11_turn 15 = .ok (.ifCond .eq 24, 3) := by decide +kernel
theorem dX11_turn_18 : decode cX11_turn 18 = .ok (.iload_n 2, 1) := by decide +kernel
theorem dX11_turn_19 : decode cX11_turn 19 = .ok (.iconst 1, 1) := by decide +kernel
theorem dX11_turn_20 : decode cX11_turn 20 = .ok (.if_icmp .eq 19, 3) := by decide +kernel
theorem dX11_turn_23 : decode cX11_turn 23 = .ok (.iload_n 2, 1) := by decide +kernel
theorem dX11_turn_24 : decode cX11_turn 24 = .ok (.iconst 2, 1) := by decide +kernel
theorem dX11_turn_25 : decode cX11_turn 25 = .ok (.if_icmp .ne 18, 3) := by decide +kernel
theorem dX11_turn_28 : decode cX11_turn 28 = .ok (.aload_n 0, 1) := by decide +kernel
theorem dX11_turn_29 : decode cX11_turn 29 = .ok (.getfield 20, 3) := by decide +kernel
theorem dX11_turn_32 : decode cX11_turn 32 = .ok (.iload_n 1, 1) := by decide +kernel
theorem dX11_turn_33 : decode cX11_turn 33 = .ok (.invokevirtual 189, 3) := by decide +kernel
theorem dX11_turn_36 : decode cX11_turn 36 = .ok (.ifCond .eq 7, 3) := by decide +kernel
theorem dX11_turn_39 : decode cX11_turn 39 = .ok (.iconst 1, 1) := by decide +kernel
theorem dX11_turn_40 : decode cX11_turn 40 = .ok (.goto 4, 3) := by decide +kernel
theorem dX11_turn_43 : decode cX11_turn 43 = .ok (.iconst 0, 1) := by decide +kernel
theorem dX11_turn_44 : decode cX11_turn 44 = .ok (.istore_n 3, 1) := by decide +kernel
theorem dX11_turn_45 : decode cX11_turn 45 = .ok (.iload_n 3, 1) := by decide +kernel
theorem dX11_turn_46 : decode cX11_turn 46 = .ok (.ifCond .ne 18, 3) := by decide +kernel
theorem dX11_turn_49 : decode cX11_turn 49 = .ok (.aload_n 0, 1) := by decide +kernel
theorem dX11_turn_50 : decode cX11_turn 50 = .ok (.getfield 30, 3) := by decide +kernel
theorem dX11_turn_53 : decode cX11_turn 53 = .ok (.getfield 106, 3) := by decide +kernel
theorem dX11_turn_56 : decode cX11_turn 56 = .ok (.iconst 1, 1) := by decide +kernel
theorem dX11_turn_57 : decode cX11_turn 57 = .ok (.dup2, 1) := by decide +kernel
theorem dX11_turn_58 : decode cX11_turn 58 = .ok (.iaload, 1) := by decide +kernel
theorem dX11_turn_59 : decode cX11_turn 59 = .ok (.iconst 1, 1) := by decide +kernel
theorem dX11_turn_60 : decode cX11_turn 60 = .ok (.iadd, 1) := by decide +kernel
theorem dX11_turn_61 : decode cX11_turn 61 = .ok (.iastore, 1) := by decide +kernel
theorem dX11_turn_62 : decode cX11_turn 62 = .ok (.iconst (-1), 1) := by decide +kernel
theorem dX11_turn_63 : decode cX11_turn 63 = .ok (.ireturn, 1) := by decide +kernel
theorem dX11_turn_64 : decode cX11_turn 64 = .ok (.aload_n 0, 1) := by decide +kernel
theorem dX11_turn_65 : decode cX11_turn 65 = .ok (.getfield 30, 3) := by decide +kernel
theorem dX11_turn_68 : decode cX11_turn 68 = .ok (.getfield 186, 3) := by decide +kernel
theorem dX11_turn_71 : decode cX11_turn 71 = .ok (.iload_n 1, 1) := by decide +kernel
theorem dX11_turn_72 : decode cX11_turn 72 = .ok (.iaload, 1) := by decide +kernel
theorem dX11_turn_73 : decode cX11_turn 73 = .ok (.istore 4, 2) := by decide +kernel
theorem dX11_turn_75 : decode cX11_turn 75 = .ok (.aload_n 0, 1) := by decide +kernel
theorem dX11_turn_76 : decode cX11_turn 76 = .ok (.getfield 30, 3) := by decide +kernel
theorem dX11_turn_79 : decode cX11_turn 79 = .ok (.getfield 186, 3) := by decide +kernel
theorem dX11_turn_82 : decode cX11_turn 82 = .ok (.iload_n 1, 1) := by decide +kernel
theorem dX11_turn_83 : decode cX11_turn 83 = .ok (.iload_n 2, 1) := by decide +kernel
theorem dX11_turn_84 : decode cX11_turn 84 = .ok (.iastore, 1) := by decide +kernel
theorem dX11_turn_85 : decode cX11_turn 85 = .ok (.iload 4, 2) := by decide +kernel
theorem dX11_turn_87 : decode cX11_turn 87 = .ok (.ireturn, 1) := by decide +kernel
def J_X11_turn_44 (v1 : Int32) (v2 : Int32) (t0 : Int32) (D : aD) : Option ((String ⊕ Int32) × aD) :=
  if t0 ≠ 0 then (aGd (aIn v1 12) (aLet (gI D 41 v1.toNatClampNeg) (fun v4_6 => aGd (aIn v1 12) (aLet (pI D 41 v1.toNatClampNeg v2) (fun D_8 => some (.inr v4_6, D_8)))))) else (aGd (aIn 1 3) (aGd (aIn 1 3) (aLet (pI D 47 (1 : Int32).toNatClampNeg ((gI D 47 (1 : Int32).toNatClampNeg) + 1)) (fun D_11 => some (.inr (-1), D_11)))))
def J_X11_turn_39 (v1 : Int32) (v2 : Int32) (D : aD) : Option ((String ⊕ Int32) × aD) :=
  J_X11_turn_44 v1 v2 1 D
def J_X11_turn_43 (v1 : Int32) (v2 : Int32) (D : aD) : Option ((String ⊕ Int32) × aD) :=
  J_X11_turn_44 v1 v2 0 D
def f_X11_turn (v1 : Int32) (v2 : Int32) (D : aD) : Option ((String ⊕ Int32) × aD) :=
  aBi (f_X11_isBelow v1 (gI D 2 4) D) (fun y_1 D_2 => aTry (f_X11_need y_1 D_2) (fun y_3 D_4 => if v2 = 0 then (J_X11_turn_39 v1 v2 D_4) else (if v2 = 1 then (J_X11_turn_39 v1 v2 D_4) else (if v2 ≠ 2 then (J_X11_turn_43 v1 v2 D_4) else (aBi (f_X6_isHerb v1 D_4) (fun y_12 D_13 => if y_12 = 0 then (J_X11_turn_43 v1 v2 D_13) else (J_X11_turn_39 v1 v2 D_13)))))))
set_option maxRecDepth 100000 in
set_option maxHeartbeats 800000 in
theorem c_X11_turn {G : aG} (hG : gOK G) {shp : List aSh} (hS : aShp shp) {fr : Option Nat} {v1 : Int32} {v2 : Int32} {D : aD} {K : (String ⊕ Int32) → aD → Prop} (h : Ok2 (f_X11_turn v1 v2 D) K) : AC G (aRm 7 1 6) M_X11_turn [.ref 0, .int v1, .int v2] fr shp D (aQxi shp K) := by
  replace h := Ok2.ok h
  unfold f_X11_turn at h
  refine AC.of (al := [some (.ref 0), some (.int v1), some (.int v2), none, none]) (r := 2) (by decide) (Nat.le_of_ble_eq_true rfl) rfl ?_
  have hJ_44 : ∀ (v1 : Int32) (v2 : Int32) (t0 : Int32) (D : aD), Ok (J_X11_turn_44 v1 v2 t0 D) (fun r => K r.1 r.2) → AW G (aRm 7 1 6) M_X11_turn fr 1 6 44 [some (.ref 0), some (.int v1), some (.int v2), none, none] [.int t0] shp D (aQxi shp K) := by
    intro v1 v2 t0 D h
    unfold J_X11_turn_44 at h
    refine aw_istore_n (n := 45) (i := 3) (al' := [some (.ref 0), some (.int v1), some (.int v2), some (.int t0), none]) dX11_turn_44 rfl rfl rfl (by decide) rfl ?_
    refine aw_iload_n (n := 46) (i := 3) dX11_turn_45 rfl rfl rfl ?_
    refine aw_if_ne (n := 49) (tgt := 64) dX11_turn_46 rfl (by decide) (fun c => ?_) (fun c => ?_)
    · replace h := Ok.ift h c
      refine aw_aload_n (n := 65) (i := 0) dX11_turn_64 rfl rfl rfl ?_
      refine aw_getR (n := 68) (j := 5) (r := 40) hG.1 fl_RX11_30 (sF_0 hS) rfl dX11_turn_65 rfl ?_
      refine aw_getR (n := 71) (j := 0) (r := 41) hG.1 fl_RX11_186 (sF_40 hS) rfl dX11_turn_68 rfl ?_
      refine aw_iload_n (n := 72) (i := 1) dX11_turn_71 rfl rfl rfl ?_
      obtain ⟨g_5, h⟩ := Ok.gd h
      refine aw_iaload (n := 73) hG.1 (sF_41 hS) (aIn_in g_5) dX11_turn_72 rfl ?_
      obtain ⟨v4_6, e_v4_6, h⟩ := Ok.let_ h
      refine aw_istore (n := 75) (i := 4) (al' := [some (.ref 0), some (.int v1), some (.int v2), some (.int t0), some (.int v4_6)]) dX11_turn_73 rfl e_v4_6 (by decide) rfl ?_
      refine aw_aload_n (n := 76) (i := 0) dX11_turn_75 rfl rfl rfl ?_
      refine aw_getR (n := 79) (j := 5) (r := 40) hG.1 fl_RX11_30 (sF_0 hS) rfl dX11_turn_76 rfl ?_
      refine aw_getR (n := 82) (j := 0) (r := 41) hG.1 fl_RX11_186 (sF_40 hS) rfl dX11_turn_79 rfl ?_
      refine aw_iload_n (n := 83) (i := 1) dX11_turn_82 rfl rfl rfl ?_
      refine aw_iload_n (n := 84) (i := 2) dX11_turn_83 rfl rfl rfl ?_
      obtain ⟨g_7, h⟩ := Ok.gd h
      obtain ⟨D_8, e_D_8, h⟩ := Ok.let_ h
      refine aw_iastore (n := 85) hG.1 (sF_41 hS) (aIn_in g_7) e_D_8 dX11_turn_84 rfl ?_
      refine aw_iload (n := 87) (i := 4) dX11_turn_85 rfl rfl ?_
      exact aw_iret rfl (by decide) (by decide) dX11_turn_87 ⟨rfl, Or.inl ⟨_, rfl, (Ok.dn h :)⟩⟩
    · replace h := Ok.iffn h c
      refine aw_aload_n (n := 50) (i := 0) dX11_turn_49 rfl rfl rfl ?_
      refine aw_getR (n := 53) (j := 5) (r := 40) hG.1 fl_RX11_30 (sF_0 hS) rfl dX11_turn_50 rfl ?_
      refine aw_getR (n := 56) (j := 9) (r := 47) hG.1 fl_RX11_106 (sF_40 hS) rfl dX11_turn_53 rfl ?_
      refine aw_iconst (n := 57) (v := 1) dX11_turn_56 rfl (by decide) ?_
      refine aw_dup2 (n := 58) dX11_turn_57 rfl rfl rfl ?_
      obtain ⟨g_9, h⟩ := Ok.gd h
      refine aw_iaload (n := 59) hG.1 (sF_47 hS) (aIn_in g_9) dX11_turn_58 rfl ?_
      refine aw_iconst (n := 60) (v := 1) dX11_turn_59 rfl (by decide) ?_
      refine aw_iadd (n := 61) dX11_turn_60 rfl ?_
      obtain ⟨g_10, h⟩ := Ok.gd h
      obtain ⟨D_11, e_D_11, h⟩ := Ok.let_ h
      refine aw_iastore (n := 62) hG.1 (sF_47 hS) (aIn_in g_10) e_D_11 dX11_turn_61 rfl ?_
      refine aw_iconst (n := 63) (v := (-1)) dX11_turn_62 rfl (by decide) ?_
      exact aw_iret rfl (by decide) (by decide) dX11_turn_63 ⟨rfl, Or.inl ⟨_, rfl, (Ok.dn h :)⟩⟩
  have hJ_39 : ∀ (v1 : Int32) (v2 : Int32) (D : aD), Ok (J_X11_turn_39 v1 v2 D) (fun r => K r.1 r.2) → AW G (aRm 7 1 6) M_X11_turn fr 1 6 39 [some (.ref 0), some (.int v1), some (.int v2), none, none] [] shp D (aQxi shp K) := by
    intro v1 v2 D h
    unfold J_X11_turn_39 at h
    refine aw_iconst (n := 40) (v := 1) dX11_turn_39 rfl (by decide) ?_
    refine aw_goto (tgt := 44) dX11_turn_40 (by decide) ?_
    exact aw_wid (by decide) (by decide) <| aw_le' (hJ_44 v1 v2 1 D h) ⟨rfl, ⟨rfl, ⟨rfl, trivial⟩⟩⟩
  have hJ_43 : ∀ (v1 : Int32) (v2 : Int32) (D : aD), Ok (J_X11_turn_43 v1 v2 D) (fun r => K r.1 r.2) → AW G (aRm 7 1 6) M_X11_turn fr 1 6 43 [some (.ref 0), some (.int v1), some (.int v2), none, none] [] shp D (aQxi shp K) := by
    intro v1 v2 D h
    unfold J_X11_turn_43 at h
    refine aw_iconst (n := 44) (v := 0) dX11_turn_43 rfl (by decide) ?_
    exact aw_wid (by decide) (by decide) <| aw_le' (hJ_44 v1 v2 0 D h) ⟨rfl, ⟨rfl, ⟨rfl, trivial⟩⟩⟩
  refine aw_iload_n (n := 1) (i := 1) dX11_turn_0 rfl rfl rfl ?_
  refine aw_aload_n (n := 2) (i := 0) dX11_turn_1 rfl rfl rfl ?_
  refine aw_getR (n := 5) (j := 3) (r := 2) hG.1 fl_RX11_20 (sF_0 hS) rfl dX11_turn_2 rfl ?_
  refine aw_getI (n := 8) (j := 4) hG.1 fl_RX11_146 (sF_2 hS) rfl dX11_turn_5 rfl ?_
  refine aw_cSi (M := M_X11_turn) (n := 11) (As := [.int v1, .int (gI D 2 4)]) (rest := []) lk_RX11_173 rfl rfl (c_X11_isBelow hG hS (h := Ok.bi h)) (by decide) (Nat.le_of_ble_eq_true rfl) (by decide) (by decide) dX11_turn_8 rfl (fun y_1 D_2 h => ?_)
  refine aw_cSxv (M := M_X11_turn) (n := 14) (As := [.int y_1]) (rest := []) (kn := 1) (kn2 := 6) lk_RX11_121 rfl rfl (c_X11_need hG hS (h := Ok.try_ h)) (by decide) (Nat.le_of_ble_eq_true rfl) rfl rfl (by decide) (by decide) rfl dX11_turn_11 rfl (fun E D hx => ⟨rfl, Or.inr ⟨E, rfl, hx⟩⟩) (fun y_3 D_4 h => ?_)
  refine aw_iload_n (n := 15) (i := 2) dX11_turn_14 rfl rfl rfl ?_
  refine aw_if_eq (n := 18) (tgt := 39) dX11_turn_15 rfl (by decide) (fun c => ?_) (fun c => ?_)
  · replace h := Ok.ift h c
    exact aw_wid (by decide) (by decide) <| aw_le' (hJ_39 v1 v2 D_4 h) ⟨rfl, ⟨rfl, ⟨rfl, trivial⟩⟩⟩
  · replace h := Ok.iff h c
    refine aw_iload_n (n := 19) (i := 2) dX11_turn_18 rfl rfl rfl ?_
    refine aw_iconst (n := 20) (v := 1) dX11_turn_19 rfl (by decide) ?_
    refine aw_icmp_eq (n := 23) (tgt := 39) dX11_turn_20 rfl (by decide) (fun c => ?_) (fun c => ?_)
    · replace h := Ok.ift h c
      exact aw_wid (by decide) (by decide) <| aw_le' (hJ_39 v1 v2 D_4 h) ⟨rfl, ⟨rfl, ⟨rfl, trivial⟩⟩⟩
    · replace h := Ok.iff h c
      refine aw_iload_n (n := 24) (i := 2) dX11_turn_23 rfl rfl rfl ?_
      refine aw_iconst (n := 25) (v := 2) dX11_turn_24 rfl (by decide) ?_
      refine aw_icmp_ne (n := 28) (tgt := 43) dX11_turn_25 rfl (by decide) (fun c => ?_) (fun c => ?_)
      · replace h := Ok.ift h c
        exact aw_wid (by decide) (by decide) <| aw_le' (hJ_43 v1 v2 D_4 h) ⟨rfl, ⟨rfl, ⟨rfl, trivial⟩⟩⟩
      · replace h := Ok.iffn h c
        refine aw_aload_n (n := 29) (i := 0) dX11_turn_28 rfl rfl rfl ?_
        refine aw_getR (n := 32) (j := 3) (r := 2) hG.1 fl_RX11_20 (sF_0 hS) rfl dX11_turn_29 rfl ?_
        refine aw_iload_n (n := 33) (i := 1) dX11_turn_32 rfl rfl rfl ?_
        refine aw_cVi (M := M_X11_turn) (n := 36) (As := [.int v1]) (rest := []) hG.1 lk_RX11_189 rfl rfl (sF_2 hS) (c_X6_isHerb hG hS (h := Ok.bi h)) (by decide) (Nat.le_of_ble_eq_true rfl) (by decide) (by decide) dX11_turn_33 rfl (fun y_12 D_13 h => ?_)
        refine aw_if_eq (n := 39) (tgt := 43) dX11_turn_36 rfl (by decide) (fun c => ?_) (fun c => ?_)
        · replace h := Ok.ift h c
          exact aw_wid (by decide) (by decide) <| aw_le' (hJ_43 v1 v2 D_13 h) ⟨rfl, ⟨rfl, ⟨rfl, trivial⟩⟩⟩
        · replace h := Ok.iff h c
          exact aw_wid (by decide) (by decide) <| aw_le' (hJ_39 v1 v2 D_13 h) ⟨rfl, ⟨rfl, ⟨rfl, trivial⟩⟩⟩
theorem dX11_week_0 : decode cX11_week 0 = .ok (.iload_n 1, 1) := by decide +kernel
theorem dX11_week_1 : decode cX11_week 1 = .ok (.bipush 52, 2) := by decide +kernel
theorem dX11_week_3 : decode cX11_week 3 = .ok (.invokestatic 173, 3) := by decide +kernel
theorem dX11_week_6 : decode cX11_week 6 = .ok (.ifCond .ne 5, 3) := by decide +kernel
theorem dX11_week_9 : decode cX11_week 9 = .ok (.iconst 0, 1) := by decide +kernel
theorem dX11_week_10 : decode cX11_week 10 = .ok (.ireturn, 1) := by decide +kernel
theorem dX11_week_11 : decode cX11_week 11 = .ok (.aload_n 0, 1) := by decide +kernel
theorem dX11_week_12 : decode cX11_week 12 = .ok (.getfield 30, 3) := by decide +kernel
theorem dX11_week_15 : decode cX11_week 15 = .ok (.iload_n 1, 1) := by decide +kernel
theorem dX11_week_16 : decode cX11_week 16 = .ok (.putfield 167, 3) := by decide +kernel
theorem dX11_week_19 : decode cX11_week 19 = .ok (.iconst 1, 1) := by decide +kernel
theorem dX11_week_20 : decode cX11_week 20 = .ok (.ireturn, 1) := by decide +kernel
def f_X11_week (v1 : Int32) (D : aD) : Option (Int32 × aD) :=
  aBi (f_X11_isBelow v1 52 D) (fun y_1 D_2 => if y_1 ≠ 0 then (aLet (pI D_2 40 3 v1) (fun D_3 => some (1, D_3))) else (some (0, D_2)))
set_option maxRecDepth 100000 in
set_option maxHeartbeats 800000 in
theorem c_X11_week {G : aG} (hG : gOK G) {shp : List aSh} (hS : aShp shp) {fr : Option Nat} {v1 : Int32} {D : aD} {K : Int32 → aD → Prop} (h : Ok2 (f_X11_week v1 D) K) : AC G (aRm 2 0 0) M_X11_week [.ref 0, .int v1] fr shp D (aQi shp K) := by
  replace h := Ok2.ok h
  unfold f_X11_week at h
  refine AC.of (al := [some (.ref 0), some (.int v1)]) (r := 0) (by decide) (Nat.le_of_ble_eq_true rfl) rfl ?_
  refine aw_iload_n (n := 1) (i := 1) dX11_week_0 rfl rfl rfl ?_
  refine aw_bipush (n := 3) (v := 52) dX11_week_1 rfl (by decide) ?_
  refine aw_cSi (M := M_X11_week) (n := 6) (As := [.int v1, .int 52]) (rest := []) lk_RX11_173 rfl rfl (c_X11_isBelow hG hS (h := Ok.bi h)) (by decide) (Nat.le_of_ble_eq_true rfl) (by decide) (by decide) dX11_week_3 rfl (fun y_1 D_2 h => ?_)
  refine aw_if_ne (n := 9) (tgt := 11) dX11_week_6 rfl (by decide) (fun c => ?_) (fun c => ?_)
  · replace h := Ok.ift h c
    refine aw_aload_n (n := 12) (i := 0) dX11_week_11 rfl rfl rfl ?_
    refine aw_getR (n := 15) (j := 5) (r := 40) hG.1 fl_RX11_30 (sF_0 hS) rfl dX11_week_12 rfl ?_
    refine aw_iload_n (n := 16) (i := 1) dX11_week_15 rfl rfl rfl ?_
    obtain ⟨D_3, e_D_3, h⟩ := Ok.let_ h
    refine aw_putI (n := 19) (j := 3) hG.1 fl_RX11_167 (sF_40 hS) rfl e_D_3 dX11_week_16 rfl ?_
    refine aw_iconst (n := 20) (v := 1) dX11_week_19 rfl (by decide) ?_
    exact aw_zret rfl (by decide) (by decide) (by decide) dX11_week_20 ⟨_, rfl, rfl, (Ok.dn h :)⟩
  · replace h := Ok.iffn h c
    refine aw_iconst (n := 10) (v := 0) dX11_week_9 rfl (by decide) ?_
    exact aw_zret rfl (by decide) (by decide) (by decide) dX11_week_10 ⟨_, rfl, rfl, (Ok.dn h :)⟩
theorem dX11_isOrder_0 : decode cX11_isOrder 0 = .ok (.iload_n 1, 1) := by decide +kernel
theorem dX11_isOrder_1 : decode cX11_isOrder 1 = .ok (.ifCond .lt 17, 3) := by decide +kernel
theorem dX11_isOrder_4 : decode cX11_isOrder 4 = .ok (.iload_n 1, 1) := by decide +kernel
theorem dX11_isOrder_5 : decode cX11_isOrder 5 = .ok (.iconst 3, 1) := by decide +kernel
theorem dX11_isOrder_6 : decode cX11_isOrder 6 = .ok (.aload_n 0, 1) := by decide +kernel
theorem dX11_isOrder_7 : decode cX11_isOrder 7 = .ok (.getfield 20, 3) := by decide +kernel
theorem dX11_isOrder_10 : decode cX11_isOrder 10 = .ok (.getfield 149, 3) := by decide +kernel
theorem dX11_isOrder_13 : decode cX11_isOrder 13 = .ok (.imul, 1) := by decide +kernel
theorem dX11_isOrder_14 : decode cX11_isOrder 14 = .ok (.iushr, 1) := by decide +kernel
theorem dX11_isOrder_15 : decode cX11_isOrder 15 = .ok (.ifCond .eq 5, 3) := by decide +kernel
theorem dX11_isOrder_18 : decode cX11_isOrder 18 = .ok (.iconst 0, 1) := by decide +kernel
theorem dX11_isOrder_19 : decode cX11_isOrder 19 = .ok (.ireturn, 1) := by decide +kernel
theorem dX11_isOrder_20 : decode cX11_isOrder 20 = .ok (.iconst 0, 1) := by decide +kernel
theorem dX11_isOrder_21 : decode cX11_isOrder 21 = .ok (.istore_n 2, 1) := by decide +kernel
theorem dX11_isOrder_22 : decode cX11_isOrder 22 = .ok (.iconst 0, 1) := by decide +kernel
theorem dX11_isOrder_23 : decode cX11_isOrder 23 = .ok (.istore_n 3, 1) := by decide +kernel
theorem dX11_isOrder_24 : decode cX11_isOrder 24 = .ok (.iload_n 3, 1) := by decide +kernel
theorem dX11_isOrder_25 : decode cX11_isOrder 25 = .ok (.aload_n 0, 1) := by decide +kernel
theorem dX11_isOrder_26 : decode cX11_isOrder 26 = .ok (.getfield 20, 3) := by decide +kernel
theorem dX11_isOrder_29 : decode cX11_isOrder 29 = .ok (.getfield 149, 3) := by decide +kernel
theorem dX11_isOrder_32 : decode cX11_isOrder 32 = .ok (.if_icmp .ge 22, 3) := by decide +kernel
theorem dX11_isOrder_35 : decode cX11_isOrder 35 = .ok (.iload_n 2, 1) := by decide +kernel
theorem dX11_isOrder_36 : decode cX11_isOrder 36 = .ok (.iconst 1, 1) := by decide +kernel
theorem dX11_isOrder_37 : decode cX11_isOrder 37 = .ok (.iload_n 1, 1) := by decide +kernel
theorem dX11_isOrder_38 : decode cX11_isOrder 38 = .ok (.iconst 3, 1) := by decide +kernel
theorem dX11_isOrder_39 : decode cX11_isOrder 39 = .ok (.iload_n 3, 1) := by decide +kernel
theorem dX11_isOrder_40 : decode cX11_isOrder 40 = .ok (.imul, 1) := by decide +kernel
theorem dX11_isOrder_41 : decode cX11_isOrder 41 = .ok (.iushr, 1) := by decide +kernel
theorem dX11_isOrder_42 : decode cX11_isOrder 42 = .ok (.bipush 7, 2) := by decide +kernel
theorem dX11_isOrder_44 : decode cX11_isOrder 44 = .ok (.iand, 1) := by decide +kernel
theorem dX11_isOrder_45 : decode cX11_isOrder 45 = .ok (.ishl, 1) := by decide +kernel
theorem dX11_isOrder_46 : decode cX11_isOrder 46 = .ok (.ior, 1) := by decide +kernel
theorem dX11_isOrder_47 : decode cX11_isOrder 47 = .ok (.istore_n 2, 1) := by decide +kernel
theorem dX11_isOrder_48 : decode cX11_isOrder 48 = .ok (.iinc 3 1, 3) := by decide +kernel
theorem dX11_isOrder_51 : decode cX11_isOrder 51 = .ok (.goto (-27), 3) := by decide +kernel
theorem dX11_isOrder_54 : decode cX11_isOrder 54 = .ok (.iload_n 2, 1) := by decide +kernel
theorem dX11_isOrder_55 : decode cX11_isOrder 55 = .ok (.iconst 1, 1) := by decide +kernel
theorem dX11_isOrder_56 : decode cX11_isOrder 56 = .ok (.aload_n 0, 1) := by decide +kernel
theorem dX11_isOrder_57 : decode cX11_isOrder 57 = .ok (.getfield 20, 3) := by decide +kernel
theorem dX11_isOrder_60 : decode cX11_isOrder 60 = .ok (.getfield 149, 3) := by decide +kernel
theorem dX11_isOrder_63 : decode cX11_isOrder 63 = .ok (.ishl, 1) := by decide +kernel
theorem dX11_isOrder_64 : decode cX11_isOrder 64 = .ok (.iconst 1, 1) := by decide +kernel
theorem dX11_isOrder_65 : decode cX11_isOrder 65 = .ok (.isub, 1) := by decide +kernel
theorem dX11_isOrder_66 : decode cX11_isOrder 66 = .ok (.if_icmp .ne 7, 3) := by decide +kernel
theorem dX11_isOrder_69 : decode cX11_isOrder 69 = .ok (.iconst 1, 1) := by decide +kernel
theorem dX11_isOrder_70 : decode cX11_isOrder 70 = .ok (.goto 4, 3) := by decide +kernel
theorem dX11_isOrder_73 : decode cX11_isOrder 73 = .ok (.iconst 0, 1) := by decide +kernel
theorem dX11_isOrder_74 : decode cX11_isOrder 74 = .ok (.ireturn, 1) := by decide +kernel
def J_X11_isOrder_54 (v2 : Int32) (D : aD) : Option (Int32 × aD) :=
  if v2 ≠ ((1 : Int32) <<< ((gI D 2 5) &&& 31)) - 1 then (some (0, D)) else (some (1, D))
def B_X11_isOrder_24 (v1 : Int32) (v2 : Int32) (v3 : Int32) (D : aD) : Option ((Int32 × Int32 × aD) ⊕ ((Int32 × aD))) :=
  if gI D 2 5 ≤ v3 then (some (.inr (v2, D))) else (aLet (v2 ||| ((1 : Int32) <<< ((((v1.toUInt32 >>> ((3 * v3).toUInt32 &&& Int32.toUInt32 31)).toInt32) &&& 7) &&& 31))) (fun v2_1 => aLet (v3 + 1) (fun v3_2 => some (.inl (v2_1, v3_2, D)))))
def J_X11_isOrder_24 (v1 : Int32) (v2 : Int32) (v3 : Int32) (D : aD) : Option (Int32 × aD) :=
  (aLp (fun s => B_X11_isOrder_24 v1 s.1 s.2.1 s.2.2) (v2, v3, D)).bind (fun r => J_X11_isOrder_54 (r.1) r.2)
def f_X11_isOrder (v1 : Int32) (D : aD) : Option (Int32 × aD) :=
  if v1 < 0 then (some (0, D)) else (if (v1.toUInt32 >>> ((3 * (gI D 2 5)).toUInt32 &&& Int32.toUInt32 31)).toInt32 = 0 then (J_X11_isOrder_24 v1 0 0 D) else (some (0, D)))
set_option maxRecDepth 100000 in
set_option maxHeartbeats 800000 in
theorem c_X11_isOrder {G : aG} (hG : gOK G) {shp : List aSh} (hS : aShp shp) {fr : Option Nat} {v1 : Int32} {D : aD} {K : Int32 → aD → Prop} (h : Ok2 (f_X11_isOrder v1 D) K) : AC G (aRm 1 0 0) M_X11_isOrder [.ref 0, .int v1] fr shp D (aQi shp K) := by
  replace h := Ok2.ok h
  unfold f_X11_isOrder at h
  refine AC.of (al := [some (.ref 0), some (.int v1), none, none]) (r := 2) (by decide) (Nat.le_of_ble_eq_true rfl) rfl ?_
  have hJ_54 : ∀ (v2 : Int32) (D : aD), Ok (J_X11_isOrder_54 v2 D) (fun r => K r.1 r.2) → AW G (aRm 1 0 0) M_X11_isOrder fr 0 0 54 [some (.ref 0), none, some (.int v2), none] [] shp D (aQi shp K) := by
    intro v2 D h
    unfold J_X11_isOrder_54 at h
    refine aw_iload_n (n := 55) (i := 2) dX11_isOrder_54 rfl rfl rfl ?_
    refine aw_iconst (n := 56) (v := 1) dX11_isOrder_55 rfl (by decide) ?_
    refine aw_aload_n (n := 57) (i := 0) dX11_isOrder_56 rfl rfl rfl ?_
    refine aw_getR (n := 60) (j := 3) (r := 2) hG.1 fl_RX11_20 (sF_0 hS) rfl dX11_isOrder_57 rfl ?_
    refine aw_getI (n := 63) (j := 5) hG.1 fl_RX11_149 (sF_2 hS) rfl dX11_isOrder_60 rfl ?_
    refine aw_ishl (n := 64) dX11_isOrder_63 rfl ?_
    refine aw_iconst (n := 65) (v := 1) dX11_isOrder_64 rfl (by decide) ?_
    refine aw_isub (n := 66) dX11_isOrder_65 rfl ?_
    refine aw_icmp_ne (n := 69) (tgt := 73) dX11_isOrder_66 rfl (by decide) (fun c => ?_) (fun c => ?_)
    · replace h := Ok.ift h c
      refine aw_iconst (n := 74) (v := 0) dX11_isOrder_73 rfl (by decide) ?_
      exact aw_zret rfl (by decide) (by decide) (by decide) dX11_isOrder_74 ⟨_, rfl, rfl, (Ok.dn h :)⟩
    · replace h := Ok.iffn h c
      refine aw_iconst (n := 70) (v := 1) dX11_isOrder_69 rfl (by decide) ?_
      refine aw_goto (tgt := 74) dX11_isOrder_70 (by decide) ?_
      exact aw_zret rfl (by decide) (by decide) (by decide) dX11_isOrder_74 ⟨_, rfl, rfl, (Ok.dn h :)⟩
  have hJ_24 : ∀ (v1 : Int32) (v2 : Int32) (v3 : Int32) (D : aD), Ok (J_X11_isOrder_24 v1 v2 v3 D) (fun r => K r.1 r.2) → AW G (aRm 1 0 0) M_X11_isOrder fr 0 0 24 [some (.ref 0), some (.int v1), some (.int v2), some (.int v3)] [] shp D (aQi shp K) := by
    intro v1 v2 v3 D h
    unfold J_X11_isOrder_24 at h
    refine Ok.lp (P := fun s => AW G (aRm 1 0 0) M_X11_isOrder fr 0 0 24 [some (.ref 0), some (.int v1), some (.int (s.1)), some (.int (s.2.1))] [] shp s.2.2 (aQi shp K)) (fun s Kb24 hL24 hR24 h => ?_) (v2, v3, D) (Ok.bind h)
    obtain ⟨v2, v3, D⟩ := s
    replace h : Ok (B_X11_isOrder_24 v1 v2 v3 D) Kb24 := h
    unfold B_X11_isOrder_24 at h
    refine aw_iload_n (n := 25) (i := 3) dX11_isOrder_24 rfl rfl rfl ?_
    refine aw_aload_n (n := 26) (i := 0) dX11_isOrder_25 rfl rfl rfl ?_
    refine aw_getR (n := 29) (j := 3) (r := 2) hG.1 fl_RX11_20 (sF_0 hS) rfl dX11_isOrder_26 rfl ?_
    refine aw_getI (n := 32) (j := 5) hG.1 fl_RX11_149 (sF_2 hS) rfl dX11_isOrder_29 rfl ?_
    refine aw_icmp_ge (n := 35) (tgt := 54) dX11_isOrder_32 rfl (by decide) (fun c => ?_) (fun c => ?_)
    · replace h := Ok.ift h c
      exact aw_le' (hJ_54 v2 D (hR24 (v2, D) (Ok.dn h :))) ⟨rfl, ⟨rfl, trivial⟩⟩
    · replace h := Ok.iff h c
      refine aw_iload_n (n := 36) (i := 2) dX11_isOrder_35 rfl rfl rfl ?_
      refine aw_iconst (n := 37) (v := 1) dX11_isOrder_36 rfl (by decide) ?_
      refine aw_iload_n (n := 38) (i := 1) dX11_isOrder_37 rfl rfl rfl ?_
      refine aw_iconst (n := 39) (v := 3) dX11_isOrder_38 rfl (by decide) ?_
      refine aw_iload_n (n := 40) (i := 3) dX11_isOrder_39 rfl rfl rfl ?_
      refine aw_imul (n := 41) dX11_isOrder_40 rfl ?_
      refine aw_iushr (n := 42) dX11_isOrder_41 rfl ?_
      refine aw_bipush (n := 44) (v := 7) dX11_isOrder_42 rfl (by decide) ?_
      refine aw_iand (n := 45) dX11_isOrder_44 rfl ?_
      refine aw_ishl (n := 46) dX11_isOrder_45 rfl ?_
      refine aw_ior (n := 47) dX11_isOrder_46 rfl ?_
      obtain ⟨v2_1, e_v2_1, h⟩ := Ok.let_ h
      refine aw_istore_n (n := 48) (i := 2) (al' := [some (.ref 0), some (.int v1), some (.int v2_1), some (.int v3)]) dX11_isOrder_47 rfl rfl e_v2_1 (by decide) rfl ?_
      obtain ⟨v3_2, e_v3_2, h⟩ := Ok.let_ h
      refine aw_iinc (n := 51) (al' := [some (.ref 0), some (.int v1), some (.int v2_1), some (.int v3_2)]) dX11_isOrder_48 rfl rfl e_v3_2 (by decide) rfl ?_
      refine aw_goto (tgt := 24) dX11_isOrder_51 (by decide) ?_
      exact aw_le' (hL24 (v2_1, v3_2, D) (Ok.dn h :)) ⟨rfl, ⟨rfl, ⟨rfl, ⟨rfl, trivial⟩⟩⟩⟩
  refine aw_iload_n (n := 1) (i := 1) dX11_isOrder_0 rfl rfl rfl ?_
  refine aw_if_lt (n := 4) (tgt := 18) dX11_isOrder_1 rfl (by decide) (fun c => ?_) (fun c => ?_)
  · replace h := Ok.ift h c
    refine aw_iconst (n := 19) (v := 0) dX11_isOrder_18 rfl (by decide) ?_
    exact aw_zret rfl (by decide) (by decide) (by decide) dX11_isOrder_19 ⟨_, rfl, rfl, (Ok.dn h :)⟩
  · replace h := Ok.iff h c
    refine aw_iload_n (n := 5) (i := 1) dX11_isOrder_4 rfl rfl rfl ?_
    refine aw_iconst (n := 6) (v := 3) dX11_isOrder_5 rfl (by decide) ?_
    refine aw_aload_n (n := 7) (i := 0) dX11_isOrder_6 rfl rfl rfl ?_
    refine aw_getR (n := 10) (j := 3) (r := 2) hG.1 fl_RX11_20 (sF_0 hS) rfl dX11_isOrder_7 rfl ?_
    refine aw_getI (n := 13) (j := 5) hG.1 fl_RX11_149 (sF_2 hS) rfl dX11_isOrder_10 rfl ?_
    refine aw_imul (n := 14) dX11_isOrder_13 rfl ?_
    refine aw_iushr (n := 15) dX11_isOrder_14 rfl ?_
    refine aw_if_eq (n := 18) (tgt := 20) dX11_isOrder_15 rfl (by decide) (fun c => ?_) (fun c => ?_)
    · replace h := Ok.ift h c
      refine aw_iconst (n := 21) (v := 0) dX11_isOrder_20 rfl (by decide) ?_
      refine aw_istore_n (n := 22) (i := 2) (al' := [some (.ref 0), some (.int v1), some (.int 0), none]) dX11_isOrder_21 rfl rfl rfl (by decide) rfl ?_
      refine aw_iconst (n := 23) (v := 0) dX11_isOrder_22 rfl (by decide) ?_
      refine aw_istore_n (n := 24) (i := 3) (al' := [some (.ref 0), some (.int v1), some (.int 0), some (.int 0)]) dX11_isOrder_23 rfl rfl rfl (by decide) rfl ?_
      exact aw_le' (hJ_24 v1 0 0 D h) ⟨rfl, ⟨rfl, ⟨rfl, ⟨rfl, trivial⟩⟩⟩⟩
    · replace h := Ok.iff h c
      refine aw_iconst (n := 19) (v := 0) dX11_isOrder_18 rfl (by decide) ?_
      exact aw_zret rfl (by decide) (by decide) (by decide) dX11_isOrder_19 ⟨_, rfl, rfl, (Ok.dn h :)⟩
theorem dX11_walk_0 : decode cX11_walk 0 = .ok (.iload_n 2, 1) := by decide +kernel
theorem dX11_walk_1 : decode cX11_walk 1 = .ok (.bipush 24, 2) := by decide +kernel
theorem dX11_walk_3 : decode cX11_walk 3 = .ok (.invokestatic 173, 3) := by decide +kernel
theorem dX11_walk_6 : decode cX11_walk 6 = .ok (.ifCond .eq 11, 3) := by decide +kernel
theorem dX11_walk_9 : decode cX11_walk 9 = .ok (.aload_n 0, 1) := by decide +kernel
theorem dX11_walk_10 : decode cX11_walk 10 = .ok (.iload_n 1, 1) := by decide +kernel
theorem dX11_walk_11 : decode cX11_walk 11 = .ok (.invokevirtual 193, 3) := by decide +kernel
theorem dX11_walk_14 : decode cX11_walk 14 = .ok (.ifCond .ne 5, 3) := by decide +kernel
theorem dX11_walk_17 : decode cX11_walk 17 = .ok (.iconst 0, 1) := by decide +kernel
theorem dX11_walk_18 : decode cX11_walk 18 = .ok (.ireturn, 1) := by decide +kernel
theorem dX11_walk_19 : decode cX11_walk 19 = .ok (.iconst 0, 1) := by decide +kernel
theorem dX11_walk_20 : decode cX11_walk 20 = .ok (.istore_n 3, 1) := by decide +kernel
theorem dX11_walk_21 : decode cX11_walk 21 = .ok (.iload_n 3, 1) := by decide +kernel
theorem dX11_walk_22 : decode cX11_walk 22 = .ok (.aload_n 0, 1) := by decide +kernel
theorem dX11_walk_23 : decode cX11_walk 23 = .ok (.getfield 20, 3) := by decide +kernel
theorem dX11_walk_26 : decode cX11_walk 26 = .ok (.getfield 149, 3) := by decide +kernel
theorem dX11_walk_29 : decode cX11_walk 29 = .ok (.if_icmp .ge 26, 3) := by decide +kernel
theorem dX11_walk_32 : decode cX11_walk 32 = .ok (.aload_n 0, 1) := by decide +kernel
theorem dX11_walk_33 : decode cX11_walk 33 = .ok (.getfield 30, 3) := by decide +kernel
theorem dX11_walk_36 : decode cX11_walk 36 = .ok (.getfield 196, 3) := by decide +kernel
theorem dX11_walk_39 : decode cX11_walk 39 = .ok (.iload_n 3, 1) := by decide +kernel
theorem dX11_walk_40 : decode cX11_walk 40 = .ok (.iload_n 1, 1) := by decide +kernel
theorem dX11_walk_41 : decode cX11_walk 41 = .ok (.iconst 3, 1) := by decide +kernel
theorem dX11_walk_42 : decode cX11_walk 42 = .ok (.iload_n 3, 1) := by decide +kernel
theorem dX11_walk_43 : decode cX11_walk 43 = .ok (.imul, 1) := by decide +kernel
theorem dX11_walk_44 : decode cX11_walk 44 = .ok (.iushr, 1) := by decide +kernel
theorem dX11_walk_45 : decode cX11_walk 45 = .ok (.bipush 7, 2) := by decide +kernel
theorem dX11_walk_47 : decode cX11_walk 47 = .ok (.iand, 1) := by decide +kernel
theorem dX11_walk_48 : decode cX11_walk 48 = .ok (.iastore, 1) := by decide +kernel
theorem dX11_walk_49 : decode cX11_walk 49 = .ok (.iinc 3 1, 3) := by decide +kernel
theorem dX11_walk_52 : decode cX11_walk 52 = .ok (.goto (-31), 3) := by decide +kernel
theorem dX11_walk_55 : decode cX11_walk 55 = .ok (.aload_n 0, 1) := by decide +kernel
theorem dX11_walk_56 : decode cX11_walk 56 = .ok (.getfield 30, 3) := by decide +kernel
theorem dX11_walk_59 : decode cX11_walk 59 = .ok (.iload_n 2, 1) := by decide +kernel
theorem dX11_walk_60 : decode cX11_walk 60 = .ok (.putfield 164, 3) := by decide +kernel
theorem dX11_walk_63 : decode cX11_walk 63 = .ok (.iconst 1, 1) := by decide +kernel
theorem dX11_walk_64 : decode cX11_walk 64 = .ok (.ireturn, 1) := by decide +kernel
def J_X11_walk_55 (v2 : Int32) (D : aD) : Option (Int32 × aD) :=
  aLet (pI D 40 2 v2) (fun D_5 => some (1, D_5))
def B_X11_walk_21 (v1 : Int32) (v2 : Int32) (v3 : Int32) (D : aD) : Option ((Int32 × aD) ⊕ ((aD))) :=
  if gI D 2 5 ≤ v3 then (some (.inr D)) else (aGd (aIn v3 5) (aLet (pI D 42 v3.toNatClampNeg (((v1.toUInt32 >>> ((3 * v3).toUInt32 &&& Int32.toUInt32 31)).toInt32) &&& 7)) (fun D_7 => aLet (v3 + 1) (fun v3_8 => some (.inl (v3_8, D_7))))))
def J_X11_walk_21 (v1 : Int32) (v2 : Int32) (v3 : Int32) (D : aD) : Option (Int32 × aD) :=
  (aLp (fun s => B_X11_walk_21 v1 v2 s.1 s.2) (v3, D)).bind (fun r => J_X11_walk_55 v2 r)
def f_X11_walk (v1 : Int32) (v2 : Int32) (D : aD) : Option (Int32 × aD) :=
  aBi (f_X11_isBelow v2 24 D) (fun y_1 D_2 => if y_1 = 0 then (some (0, D_2)) else (aBi (f_X11_isOrder v1 D_2) (fun y_3 D_4 => if y_3 ≠ 0 then (J_X11_walk_21 v1 v2 0 D_4) else (some (0, D_4)))))
set_option maxRecDepth 100000 in
set_option maxHeartbeats 800000 in
theorem c_X11_walk {G : aG} (hG : gOK G) {shp : List aSh} (hS : aShp shp) {fr : Option Nat} {v1 : Int32} {v2 : Int32} {D : aD} {K : Int32 → aD → Prop} (h : Ok2 (f_X11_walk v1 v2 D) K) : AC G (aRm 2 0 0) M_X11_walk [.ref 0, .int v1, .int v2] fr shp D (aQi shp K) := by
  replace h := Ok2.ok h
  unfold f_X11_walk at h
  refine AC.of (al := [some (.ref 0), some (.int v1), some (.int v2), none]) (r := 1) (by decide) (Nat.le_of_ble_eq_true rfl) rfl ?_
  have hJ_55 : ∀ (v2 : Int32) (D : aD), Ok (J_X11_walk_55 v2 D) (fun r => K r.1 r.2) → AW G (aRm 2 0 0) M_X11_walk fr 0 0 55 [some (.ref 0), none, some (.int v2), none] [] shp D (aQi shp K) := by
    intro v2 D h
    unfold J_X11_walk_55 at h
    refine aw_aload_n (n := 56) (i := 0) dX11_walk_55 rfl rfl rfl ?_
    refine aw_getR (n := 59) (j := 5) (r := 40) hG.1 fl_RX11_30 (sF_0 hS) rfl dX11_walk_56 rfl ?_
    refine aw_iload_n (n := 60) (i := 2) dX11_walk_59 rfl rfl rfl ?_
    obtain ⟨D_5, e_D_5, h⟩ := Ok.let_ h
    refine aw_putI (n := 63) (j := 2) hG.1 fl_RX11_164 (sF_40 hS) rfl e_D_5 dX11_walk_60 rfl ?_
    refine aw_iconst (n := 64) (v := 1) dX11_walk_63 rfl (by decide) ?_
    exact aw_zret rfl (by decide) (by decide) (by decide) dX11_walk_64 ⟨_, rfl, rfl, (Ok.dn h :)⟩
  have hJ_21 : ∀ (v1 : Int32) (v2 : Int32) (v3 : Int32) (D : aD), Ok (J_X11_walk_21 v1 v2 v3 D) (fun r => K r.1 r.2) → AW G (aRm 2 0 0) M_X11_walk fr 0 0 21 [some (.ref 0), some (.int v1), some (.int v2), some (.int v3)] [] shp D (aQi shp K) := by
    intro v1 v2 v3 D h
    unfold J_X11_walk_21 at h
    refine Ok.lp (P := fun s => AW G (aRm 2 0 0) M_X11_walk fr 0 0 21 [some (.ref 0), some (.int v1), some (.int v2), some (.int (s.1))] [] shp s.2 (aQi shp K)) (fun s Kb21 hL21 hR21 h => ?_) (v3, D) (Ok.bind h)
    obtain ⟨v3, D⟩ := s
    replace h : Ok (B_X11_walk_21 v1 v2 v3 D) Kb21 := h
    unfold B_X11_walk_21 at h
    refine aw_iload_n (n := 22) (i := 3) dX11_walk_21 rfl rfl rfl ?_
    refine aw_aload_n (n := 23) (i := 0) dX11_walk_22 rfl rfl rfl ?_
    refine aw_getR (n := 26) (j := 3) (r := 2) hG.1 fl_RX11_20 (sF_0 hS) rfl dX11_walk_23 rfl ?_
    refine aw_getI (n := 29) (j := 5) hG.1 fl_RX11_149 (sF_2 hS) rfl dX11_walk_26 rfl ?_
    refine aw_icmp_ge (n := 32) (tgt := 55) dX11_walk_29 rfl (by decide) (fun c => ?_) (fun c => ?_)
    · replace h := Ok.ift h c
      exact aw_le' (hJ_55 v2 D (hR21 D (Ok.dn h :))) ⟨rfl, ⟨rfl, trivial⟩⟩
    · replace h := Ok.iff h c
      refine aw_aload_n (n := 33) (i := 0) dX11_walk_32 rfl rfl rfl ?_
      refine aw_getR (n := 36) (j := 5) (r := 40) hG.1 fl_RX11_30 (sF_0 hS) rfl dX11_walk_33 rfl ?_
      refine aw_getR (n := 39) (j := 1) (r := 42) hG.1 fl_RX11_196 (sF_40 hS) rfl dX11_walk_36 rfl ?_
      refine aw_iload_n (n := 40) (i := 3) dX11_walk_39 rfl rfl rfl ?_
      refine aw_iload_n (n := 41) (i := 1) dX11_walk_40 rfl rfl rfl ?_
      refine aw_iconst (n := 42) (v := 3) dX11_walk_41 rfl (by decide) ?_
      refine aw_iload_n (n := 43) (i := 3) dX11_walk_42 rfl rfl rfl ?_
      refine aw_imul (n := 44) dX11_walk_43 rfl ?_
      refine aw_iushr (n := 45) dX11_walk_44 rfl ?_
      refine aw_bipush (n := 47) (v := 7) dX11_walk_45 rfl (by decide) ?_
      refine aw_iand (n := 48) dX11_walk_47 rfl ?_
      obtain ⟨g_6, h⟩ := Ok.gd h
      obtain ⟨D_7, e_D_7, h⟩ := Ok.let_ h
      refine aw_iastore (n := 49) hG.1 (sF_42 hS) (aIn_in g_6) e_D_7 dX11_walk_48 rfl ?_
      obtain ⟨v3_8, e_v3_8, h⟩ := Ok.let_ h
      refine aw_iinc (n := 52) (al' := [some (.ref 0), some (.int v1), some (.int v2), some (.int v3_8)]) dX11_walk_49 rfl rfl e_v3_8 (by decide) rfl ?_
      refine aw_goto (tgt := 21) dX11_walk_52 (by decide) ?_
      exact aw_le' (hL21 (v3_8, D_7) (Ok.dn h :)) ⟨rfl, ⟨rfl, ⟨rfl, ⟨rfl, trivial⟩⟩⟩⟩
  refine aw_iload_n (n := 1) (i := 2) dX11_walk_0 rfl rfl rfl ?_
  refine aw_bipush (n := 3) (v := 24) dX11_walk_1 rfl (by decide) ?_
  refine aw_cSi (M := M_X11_walk) (n := 6) (As := [.int v2, .int 24]) (rest := []) lk_RX11_173 rfl rfl (c_X11_isBelow hG hS (h := Ok.bi h)) (by decide) (Nat.le_of_ble_eq_true rfl) (by decide) (by decide) dX11_walk_3 rfl (fun y_1 D_2 h => ?_)
  refine aw_if_eq (n := 9) (tgt := 17) dX11_walk_6 rfl (by decide) (fun c => ?_) (fun c => ?_)
  · replace h := Ok.ift h c
    refine aw_iconst (n := 18) (v := 0) dX11_walk_17 rfl (by decide) ?_
    exact aw_zret rfl (by decide) (by decide) (by decide) dX11_walk_18 ⟨_, rfl, rfl, (Ok.dn h :)⟩
  · replace h := Ok.iff h c
    refine aw_aload_n (n := 10) (i := 0) dX11_walk_9 rfl rfl rfl ?_
    refine aw_iload_n (n := 11) (i := 1) dX11_walk_10 rfl rfl rfl ?_
    refine aw_cVi (M := M_X11_walk) (n := 14) (As := [.int v1]) (rest := []) hG.1 lk_RX11_193 rfl rfl (sF_0 hS) (c_X11_isOrder hG hS (h := Ok.bi h)) (by decide) (Nat.le_of_ble_eq_true rfl) (by decide) (by decide) dX11_walk_11 rfl (fun y_3 D_4 h => ?_)
    refine aw_if_ne (n := 17) (tgt := 19) dX11_walk_14 rfl (by decide) (fun c => ?_) (fun c => ?_)
    · replace h := Ok.ift h c
      refine aw_iconst (n := 20) (v := 0) dX11_walk_19 rfl (by decide) ?_
      refine aw_istore_n (n := 21) (i := 3) (al' := [some (.ref 0), some (.int v1), some (.int v2), some (.int 0)]) dX11_walk_20 rfl rfl rfl (by decide) rfl ?_
      exact aw_le' (hJ_21 v1 v2 0 D_4 h) ⟨rfl, ⟨rfl, ⟨rfl, ⟨rfl, trivial⟩⟩⟩⟩
    · replace h := Ok.iffn h c
      refine aw_iconst (n := 18) (v := 0) dX11_walk_17 rfl (by decide) ?_
      exact aw_zret rfl (by decide) (by decide) (by decide) dX11_walk_18 ⟨_, rfl, rfl, (Ok.dn h :)⟩
theorem dX11_orderOf_0 : decode cX11_orderOf 0 = .ok (.iconst 0, 1) := by decide +kernel
theorem dX11_orderOf_1 : decode cX11_orderOf 1 = .ok (.istore_n 2, 1) := by decide +kernel
theorem dX11_orderOf_2 : decode cX11_orderOf 2 = .ok (.iconst 0, 1) := by decide +kernel
theorem dX11_orderOf_3 : decode cX11_orderOf 3 = .ok (.istore_n 3, 1) := by decide +kernel
theorem dX11_orderOf_4 : decode cX11_orderOf 4 = .ok (.iload_n 3, 1) := by decide +kernel
theorem dX11_orderOf_5 : decode cX11_orderOf 5 = .ok (.iload_n 1, 1) := by decide +kernel
theorem dX11_orderOf_6 : decode cX11_orderOf 6 = .ok (.if_icmp .ge 25, 3) := by decide +kernel
theorem dX11_orderOf_9 : decode cX11_orderOf 9 = .ok (.iload_n 3, 1) := by decide +kernel
theorem dX11_orderOf_10 : decode cX11_orderOf 10 = .ok (.aload_n 0, 1) := by decide +kernel
theorem dX11_orderOf_11 : decode cX11_orderOf 11 = .ok (.arraylength, 1) := by decide +kernel
theorem dX11_orderOf_12 : decode cX11_orderOf 12 = .ok (.if_icmp .ge 19, 3) := by decide +kernel
theorem dX11_orderOf_15 : decode cX11_orderOf 15 = .ok (.iload_n 2, 1) := by decide +kernel
theorem dX11_orderOf_16 : decode cX11_orderOf 16 = .ok (.aload_n 0, 1) := by decide +kernel
theorem dX11_orderOf_17 : decode cX11_orderOf 17 = .ok (.iload_n 3, 1) := by decide +kernel
theorem dX11_orderOf_18 : decode cX11_orderOf 18 = .ok (.iaload, 1) := by decide +kernel
theorem dX11_orderOf_19 : decode cX11_orderOf 19 = .ok (.iconst 3, 1) := by decide +kernel
theorem dX11_orderOf_20 : decode cX11_orderOf 20 = .ok (.iload_n 3, 1) := by decide +kernel
theorem dX11_orderOf_21 : decode cX11_orderOf 21 = .ok (.imul, 1) := by decide +kernel
theorem dX11_orderOf_22 : decode cX11_orderOf 22 = .ok (.ishl, 1) := by decide +kernel
theorem dX11_orderOf_23 : decode cX11_orderOf 23 = .ok (.ior, 1) := by decide +kernel
theorem dX11_orderOf_24 : decode cX11_orderOf 24 = .ok (.istore_n 2, 1) := by decide +kernel
theorem dX11_orderOf_25 : decode cX11_orderOf 25 = .ok (.iinc 3 1, 3) := by decide +kernel
theorem dX11_orderOf_28 : decode cX11_orderOf 28 = .ok (.goto (-24), 3) := by decide +kernel
theorem dX11_orderOf_31 : decode cX11_orderOf 31 = .ok (.iload_n 2, 1) := by decide +kernel
theorem dX11_orderOf_32 : decode cX11_orderOf 32 = .ok (.ireturn, 1) := by decide +kernel
def J_X11_orderOf_31 (a0 : Nat) (na0 : Nat) (v2 : Int32) (D : aD) : Option (Int32 × aD) :=
  some (v2, D)
def B_X11_orderOf_4 (a0 : Nat) (na0 : Nat) (v1 : Int32) (v2 : Int32) (v3 : Int32) (D : aD) : Option ((Int32 × Int32 × aD) ⊕ ((Int32 × aD))) :=
  if v1 ≤ v3 then (some (.inr (v2, D))) else (if Int32.ofNat na0 ≤ v3 then (some (.inr (v2, D))) else (aGd (aIn v3 na0) (aLet (v2 ||| ((gI D a0 v3.toNatClampNeg) <<< ((3 * v3) &&& 31))) (fun v2_2 => aLet (v3 + 1) (fun v3_3 => some (.inl (v2_2, v3_3, D)))))))
def J_X11_orderOf_4 (a0 : Nat) (na0 : Nat) (v1 : Int32) (v2 : Int32) (v3 : Int32) (D : aD) : Option (Int32 × aD) :=
  (aLp (fun s => B_X11_orderOf_4 a0 na0 v1 s.1 s.2.1 s.2.2) (v2, v3, D)).bind (fun r => J_X11_orderOf_31 a0 na0 (r.1) r.2)
def f_X11_orderOf (a0 : Nat) (na0 : Nat) (v1 : Int32) (D : aD) : Option (Int32 × aD) :=
  J_X11_orderOf_4 a0 na0 v1 0 0 D
set_option maxRecDepth 100000 in
set_option maxHeartbeats 800000 in
theorem c_X11_orderOf {G : aG} (hG : gOK G) {shp : List aSh} (hS : aShp shp) {fr : Option Nat} {a0 : Nat} {na0 : Nat} {v1 : Int32} {D : aD} {K : Int32 → aD → Prop} (h : Ok2 (f_X11_orderOf a0 na0 v1 D) K) (ha0 : shp[a0]? = some (.inl (1, na0, []))) : AC G (aRm 1 0 0) M_X11_orderOf [.ref a0, .int v1] fr shp D (aQi shp K) := by
  replace h := Ok2.ok h
  unfold f_X11_orderOf at h
  refine AC.of (al := [some (.ref a0), some (.int v1), none, none]) (r := 2) (by decide) (Nat.le_of_ble_eq_true rfl) rfl ?_
  have hJ_31 : ∀ (v2 : Int32) (D : aD), Ok (J_X11_orderOf_31 a0 na0 v2 D) (fun r => K r.1 r.2) → AW G (aRm 1 0 0) M_X11_orderOf fr 0 0 31 [none, none, some (.int v2), none] [] shp D (aQi shp K) := by
    intro v2 D h
    unfold J_X11_orderOf_31 at h
    refine aw_iload_n (n := 32) (i := 2) dX11_orderOf_31 rfl rfl rfl ?_
    exact aw_iret rfl (by decide) (by decide) dX11_orderOf_32 ⟨_, rfl, rfl, (Ok.dn h :)⟩
  have hJ_4 : ∀ (v1 : Int32) (v2 : Int32) (v3 : Int32) (D : aD), Ok (J_X11_orderOf_4 a0 na0 v1 v2 v3 D) (fun r => K r.1 r.2) → AW G (aRm 1 0 0) M_X11_orderOf fr 0 0 4 [some (.ref a0), some (.int v1), some (.int v2), some (.int v3)] [] shp D (aQi shp K) := by
    intro v1 v2 v3 D h
    unfold J_X11_orderOf_4 at h
    refine Ok.lp (P := fun s => AW G (aRm 1 0 0) M_X11_orderOf fr 0 0 4 [some (.ref a0), some (.int v1), some (.int (s.1)), some (.int (s.2.1))] [] shp s.2.2 (aQi shp K)) (fun s Kb4 hL4 hR4 h => ?_) (v2, v3, D) (Ok.bind h)
    obtain ⟨v2, v3, D⟩ := s
    replace h : Ok (B_X11_orderOf_4 a0 na0 v1 v2 v3 D) Kb4 := h
    unfold B_X11_orderOf_4 at h
    refine aw_iload_n (n := 5) (i := 3) dX11_orderOf_4 rfl rfl rfl ?_
    refine aw_iload_n (n := 6) (i := 1) dX11_orderOf_5 rfl rfl rfl ?_
    refine aw_icmp_ge (n := 9) (tgt := 31) dX11_orderOf_6 rfl (by decide) (fun c => ?_) (fun c => ?_)
    · replace h := Ok.ift h c
      exact aw_le' (hJ_31 v2 D (hR4 (v2, D) (Ok.dn h :))) ⟨rfl, trivial⟩
    · replace h := Ok.iff h c
      refine aw_iload_n (n := 10) (i := 3) dX11_orderOf_9 rfl rfl rfl ?_
      refine aw_aload_n (n := 11) (i := 0) dX11_orderOf_10 rfl rfl rfl ?_
      refine aw_alen (n := 12) (t := 1) (v := Int32.ofNat na0) hG.1 rfl ha0 rfl dX11_orderOf_11 rfl ?_
      refine aw_icmp_ge (n := 15) (tgt := 31) dX11_orderOf_12 rfl (by decide) (fun c => ?_) (fun c => ?_)
      · replace h := Ok.ift h c
        exact aw_le' (hJ_31 v2 D (hR4 (v2, D) (Ok.dn h :))) ⟨rfl, trivial⟩
      · replace h := Ok.iff h c
        refine aw_iload_n (n := 16) (i := 2) dX11_orderOf_15 rfl rfl rfl ?_
        refine aw_aload_n (n := 17) (i := 0) dX11_orderOf_16 rfl rfl rfl ?_
        refine aw_iload_n (n := 18) (i := 3) dX11_orderOf_17 rfl rfl rfl ?_
        obtain ⟨g_1, h⟩ := Ok.gd h
        refine aw_iaload (n := 19) hG.1 ha0 (aIn_in g_1) dX11_orderOf_18 rfl ?_
        refine aw_iconst (n := 20) (v := 3) dX11_orderOf_19 rfl (by decide) ?_
        refine aw_iload_n (n := 21) (i := 3) dX11_orderOf_20 rfl rfl rfl ?_
        refine aw_imul (n := 22) dX11_orderOf_21 rfl ?_
        refine aw_ishl (n := 23) dX11_orderOf_22 rfl ?_
        refine aw_ior (n := 24) dX11_orderOf_23 rfl ?_
        obtain ⟨v2_2, e_v2_2, h⟩ := Ok.let_ h
        refine aw_istore_n (n := 25) (i := 2) (al' := [some (.ref a0), some (.int v1), some (.int v2_2), some (.int v3)]) dX11_orderOf_24 rfl rfl e_v2_2 (by decide) rfl ?_
        obtain ⟨v3_3, e_v3_3, h⟩ := Ok.let_ h
        refine aw_iinc (n := 28) (al' := [some (.ref a0), some (.int v1), some (.int v2_2), some (.int v3_3)]) dX11_orderOf_25 rfl rfl e_v3_3 (by decide) rfl ?_
        refine aw_goto (tgt := 4) dX11_orderOf_28 (by decide) ?_
        exact aw_le' (hL4 (v2_2, v3_3, D) (Ok.dn h :)) ⟨rfl, ⟨rfl, ⟨rfl, ⟨rfl, trivial⟩⟩⟩⟩
  refine aw_iconst (n := 1) (v := 0) dX11_orderOf_0 rfl (by decide) ?_
  refine aw_istore_n (n := 2) (i := 2) (al' := [some (.ref a0), some (.int v1), some (.int 0), none]) dX11_orderOf_1 rfl rfl rfl (by decide) rfl ?_
  refine aw_iconst (n := 3) (v := 0) dX11_orderOf_2 rfl (by decide) ?_
  refine aw_istore_n (n := 4) (i := 3) (al' := [some (.ref a0), some (.int v1), some (.int 0), some (.int 0)]) dX11_orderOf_3 rfl rfl rfl (by decide) rfl ?_
  exact aw_le' (hJ_4 v1 0 0 D h) ⟨rfl, ⟨rfl, ⟨rfl, ⟨rfl, trivial⟩⟩⟩⟩
theorem dX11_order_0 : decode cX11_order 0 = .ok (.aload_n 0, 1) := by decide +kernel
theorem dX11_order_1 : decode cX11_order 1 = .ok (.getfield 30, 3) := by decide +kernel
theorem dX11_order_4 : decode cX11_order 4 = .ok (.getfield 196, 3) := by decide +kernel
theorem dX11_order_7 : decode cX11_order 7 = .ok (.aload_n 0, 1) := by decide +kernel
theorem dX11_order_8 : decode cX11_order 8 = .ok (.getfield 20, 3) := by decide +kernel
theorem dX11_order_11 : decode cX11_order 11 = .ok (.getfield 149, 3) := by decide +kernel
theorem dX11_order_14 : decode cX11_order 14 = .ok (.invokestatic 199, 3) := by decide +kernel
theorem dX11_order_17 : decode cX11_order 17 = .ok (.ireturn, 1) := by decide +kernel
def f_X11_order (D : aD) : Option (Int32 × aD) :=
  aBi (f_X11_orderOf 42 5 (gI D 2 5) D) (fun y_1 D_2 => some (y_1, D_2))
set_option maxRecDepth 100000 in
set_option maxHeartbeats 800000 in
theorem c_X11_order {G : aG} (hG : gOK G) {shp : List aSh} (hS : aShp shp) {fr : Option Nat} {D : aD} {K : Int32 → aD → Prop} (h : Ok2 (f_X11_order D) K) : AC G (aRm 2 0 0) M_X11_order [.ref 0] fr shp D (aQi shp K) := by
  replace h := Ok2.ok h
  unfold f_X11_order at h
  refine AC.of (al := [some (.ref 0)]) (r := 0) (by decide) (Nat.le_of_ble_eq_true rfl) rfl ?_
  refine aw_aload_n (n := 1) (i := 0) dX11_order_0 rfl rfl rfl ?_
  refine aw_getR (n := 4) (j := 5) (r := 40) hG.1 fl_RX11_30 (sF_0 hS) rfl dX11_order_1 rfl ?_
  refine aw_getR (n := 7) (j := 1) (r := 42) hG.1 fl_RX11_196 (sF_40 hS) rfl dX11_order_4 rfl ?_
  refine aw_aload_n (n := 8) (i := 0) dX11_order_7 rfl rfl rfl ?_
  refine aw_getR (n := 11) (j := 3) (r := 2) hG.1 fl_RX11_20 (sF_0 hS) rfl dX11_order_8 rfl ?_
  refine aw_getI (n := 14) (j := 5) hG.1 fl_RX11_149 (sF_2 hS) rfl dX11_order_11 rfl ?_
  refine aw_cSi (M := M_X11_order) (n := 17) (As := [.ref 42, .int (gI D 2 5)]) (rest := []) lk_RX11_199 rfl rfl (c_X11_orderOf hG hS (h := Ok.bi h) (sF_42 hS)) (by decide) (Nat.le_of_ble_eq_true rfl) (by decide) (by decide) dX11_order_14 rfl (fun y_1 D_2 h => ?_)
  exact aw_iret rfl (by decide) (by decide) dX11_order_17 ⟨_, rfl, rfl, (Ok.dn h :)⟩
theorem dX11_needWind_0 : decode cX11_needWind 0 = .ok (.iload_n 0, 1) := by decide +kernel
theorem dX11_needWind_1 : decode cX11_needWind 1 = .ok (.iconst 5, 1) := by decide +kernel
theorem dX11_needWind_2 : decode cX11_needWind 2 = .ok (.invokestatic 173, 3) := by decide +kernel
theorem dX11_needWind_5 : decode cX11_needWind 5 = .ok (.invokestatic 121, 3) := by decide +kernel
theorem dX11_needWind_8 : decode cX11_needWind 8 = .ok (.return_, 1) := by decide +kernel
def f_X11_needWind (v0 : Int32) (D : aD) : Option ((String ⊕ Int32) × aD) :=
  aBi (f_X11_isBelow v0 5 D) (fun y_1 D_2 => aTry (f_X11_need y_1 D_2) (fun y_3 D_4 => some (.inr 0, D_4)))
set_option maxRecDepth 100000 in
set_option maxHeartbeats 800000 in
theorem c_X11_needWind {G : aG} (hG : gOK G) {shp : List aSh} (hS : aShp shp) {fr : Option Nat} {v0 : Int32} {D : aD} {K : (String ⊕ Int32) → aD → Prop} (h : Ok2 (f_X11_needWind v0 D) K) : AC G (aRm 7 1 6) M_X11_needWind [.int v0] fr shp D (aQxv shp K) := by
  replace h := Ok2.ok h
  unfold f_X11_needWind at h
  refine AC.of (al := [some (.int v0)]) (r := 0) (by decide) (Nat.le_of_ble_eq_true rfl) rfl ?_
  refine aw_iload_n (n := 1) (i := 0) dX11_needWind_0 rfl rfl rfl ?_
  refine aw_iconst (n := 2) (v := 5) dX11_needWind_1 rfl (by decide) ?_
  refine aw_cSi (M := M_X11_needWind) (n := 5) (As := [.int v0, .int 5]) (rest := []) lk_RX11_173 rfl rfl (c_X11_isBelow hG hS (h := Ok.bi h)) (by decide) (Nat.le_of_ble_eq_true rfl) (by decide) (by decide) dX11_needWind_2 rfl (fun y_1 D_2 h => ?_)
  refine aw_cSxv (M := M_X11_needWind) (n := 8) (As := [.int y_1]) (rest := []) (kn := 1) (kn2 := 6) lk_RX11_121 rfl rfl (c_X11_need hG hS (h := Ok.try_ h)) (by decide) (Nat.le_of_ble_eq_true rfl) rfl rfl (by decide) (by decide) rfl dX11_needWind_5 rfl (fun E D hx => ⟨rfl, Or.inr ⟨E, rfl, hx⟩⟩) (fun y_3 D_4 h => ?_)
  exact aw_vret rfl (by decide) (by decide) dX11_needWind_8 ⟨rfl, Or.inl ⟨rfl, (Ok.dn h :)⟩⟩
theorem dX11_needAir_0 : decode cX11_needAir 0 = .ok (.iload_n 1, 1) := by decide +kernel
theorem dX11_needAir_1 : decode cX11_needAir 1 = .ok (.aload_n 0, 1) := by decide +kernel
theorem dX11_needAir_2 : decode cX11_needAir 2 = .ok (.getfield 20, 3) := by decide +kernel
theorem dX11_needAir_5 : decode cX11_needAir 5 = .ok (.getfield 128, 3) := by decide +kernel
theorem dX11_needAir_8 : decode cX11_needAir 8 = .ok (.invokevirtual 326, 3) := by decide +kernel
theorem dX11_needAir_11 : decode cX11_needAir 11 = .ok (.invokestatic 173, 3) := by decide +kernel
theorem dX11_needAir_14 : decode cX11_needAir 14 = .ok (.ifCond .eq 16, 3) := by decide +kernel
theorem dX11_needAir_17 : decode cX11_needAir 17 = .ok (.iload_n 2, 1) := by decide +kernel
theorem dX11_needAir_18 : decode cX11_needAir 18 = .ok (.bipush 24, 2) := by decide +kernel
theorem dX11_needAir_20 : decode cX11_needAir 20 = .ok (.invokestatic 173, 3) := by decide +kernel
theorem dX11_needAir_23 : decode cX11_needAir 23 = .ok (.ifCond .eq 7, 3) := by decide +kernel
theorem dX11_needAir_26 : decode cX11_needAir 26 = .ok (.iconst 1, 1) := by decide +kernel
theorem dX11_needAir_27 : decode cX11_needAir 27 = .ok (.goto 4, 3) := by decide +kernel
theorem dX11_needAir_30 : decode cX11_needAir 30 = .ok (.iconst 0, 1) := by decide +kernel
theorem dX11_needAir_31 : decode cX11_needAir 31 = .ok (.invokestatic 121, 3) := by decide +kernel
theorem dX11_needAir_34 : decode cX11_needAir 34 = .ok (.iload_n 3, 1) := by decide +kernel
theorem dX11_needAir_35 : decode cX11_needAir 35 = .ok (.invokestatic 229, 3) := by decide +kernel
theorem dX11_needAir_38 : decode cX11_needAir 38 = .ok (.return_, 1) := by decide +kernel
def J_X11_needAir_31 (v3 : Int32) (t0 : Int32) (D : aD) : Option ((String ⊕ Int32) × aD) :=
  aTry (f_X11_need t0 D) (fun y_5 D_6 => aTry (f_X11_needWind v3 D_6) (fun y_7 D_8 => some (.inr 0, D_8)))
def J_X11_needAir_30 (v3 : Int32) (D : aD) : Option ((String ⊕ Int32) × aD) :=
  J_X11_needAir_31 v3 0 D
def f_X11_needAir (v1 : Int32) (v2 : Int32) (v3 : Int32) (D : aD) : Option ((String ⊕ Int32) × aD) :=
  aBi (f_X4_cells D) (fun y_1 D_2 => aBi (f_X11_isBelow v1 y_1 D_2) (fun y_3 D_4 => if y_3 = 0 then (J_X11_needAir_30 v3 D_4) else (aBi (f_X11_isBelow v2 24 D_4) (fun y_9 D_10 => if y_9 = 0 then (J_X11_needAir_30 v3 D_10) else (J_X11_needAir_31 v3 1 D_10)))))
set_option maxRecDepth 100000 in
set_option maxHeartbeats 800000 in
theorem c_X11_needAir {G : aG} (hG : gOK G) {shp : List aSh} (hS : aShp shp) {fr : Option Nat} {v1 : Int32} {v2 : Int32} {v3 : Int32} {D : aD} {K : (String ⊕ Int32) → aD → Prop} (h : Ok2 (f_X11_needAir v1 v2 v3 D) K) : AC G (aRm 8 2 12) M_X11_needAir [.ref 0, .int v1, .int v2, .int v3] fr shp D (aQxv shp K) := by
  replace h := Ok2.ok h
  unfold f_X11_needAir at h
  refine AC.of (al := [some (.ref 0), some (.int v1), some (.int v2), some (.int v3)]) (r := 0) (by decide) (Nat.le_of_ble_eq_true rfl) rfl ?_
  have hJ_31 : ∀ (v3 : Int32) (t0 : Int32) (D : aD), Ok (J_X11_needAir_31 v3 t0 D) (fun r => K r.1 r.2) → AW G (aRm 8 2 12) M_X11_needAir fr 0 0 31 [none, none, none, some (.int v3)] [.int t0] shp D (aQxv shp K) := by
    intro v3 t0 D h
    unfold J_X11_needAir_31 at h
    refine aw_cSxv (M := M_X11_needAir) (n := 34) (As := [.int t0]) (rest := []) (kn := 1) (kn2 := 6) lk_RX11_121 rfl rfl (c_X11_need hG hS (h := Ok.try_ h)) (by decide) (Nat.le_of_ble_eq_true rfl) rfl rfl (by decide) (by decide) rfl dX11_needAir_31 rfl (fun E D hx => ⟨rfl, Or.inr ⟨E, rfl, hx⟩⟩) (fun y_5 D_6 h => ?_)
    refine aw_iload_n (n := 35) (i := 3) dX11_needAir_34 rfl rfl rfl ?_
    refine aw_cSxv (M := M_X11_needAir) (n := 38) (As := [.int v3]) (rest := []) (kn := 2) (kn2 := 12) lk_RX11_229 rfl rfl (c_X11_needWind hG hS (h := Ok.try_ h)) (by decide) (Nat.le_of_ble_eq_true rfl) rfl rfl (by decide) (by decide) rfl dX11_needAir_35 rfl (fun E D hx => ⟨rfl, Or.inr ⟨E, rfl, hx⟩⟩) (fun y_7 D_8 h => ?_)
    exact aw_vret rfl (by decide) (by decide) dX11_needAir_38 ⟨rfl, Or.inl ⟨rfl, (Ok.dn h :)⟩⟩
  have hJ_30 : ∀ (v3 : Int32) (D : aD), Ok (J_X11_needAir_30 v3 D) (fun r => K r.1 r.2) → AW G (aRm 8 2 12) M_X11_needAir fr 0 0 30 [none, none, none, some (.int v3)] [] shp D (aQxv shp K) := by
    intro v3 D h
    unfold J_X11_needAir_30 at h
    refine aw_iconst (n := 31) (v := 0) dX11_needAir_30 rfl (by decide) ?_
    exact aw_wid (by decide) (by decide) <| aw_le' (hJ_31 v3 0 D h) ⟨rfl, trivial⟩
  refine aw_iload_n (n := 1) (i := 1) dX11_needAir_0 rfl rfl rfl ?_
  refine aw_aload_n (n := 2) (i := 0) dX11_needAir_1 rfl rfl rfl ?_
  refine aw_getR (n := 5) (j := 3) (r := 2) hG.1 fl_RX11_20 (sF_0 hS) rfl dX11_needAir_2 rfl ?_
  refine aw_getR (n := 8) (j := 0) (r := 3) hG.1 fl_RX11_128 (sF_2 hS) rfl dX11_needAir_5 rfl ?_
  refine aw_cVi (M := M_X11_needAir) (n := 11) (As := []) (rest := [.int v1]) hG.1 lk_RX11_326 rfl rfl (sF_3 hS) (c_X4_cells hG hS (h := Ok.bi h)) (by decide) (Nat.le_of_ble_eq_true rfl) (by decide) (by decide) dX11_needAir_8 rfl (fun y_1 D_2 h => ?_)
  refine aw_cSi (M := M_X11_needAir) (n := 14) (As := [.int v1, .int y_1]) (rest := []) lk_RX11_173 rfl rfl (c_X11_isBelow hG hS (h := Ok.bi h)) (by decide) (Nat.le_of_ble_eq_true rfl) (by decide) (by decide) dX11_needAir_11 rfl (fun y_3 D_4 h => ?_)
  refine aw_if_eq (n := 17) (tgt := 30) dX11_needAir_14 rfl (by decide) (fun c => ?_) (fun c => ?_)
  · replace h := Ok.ift h c
    exact aw_wid (by decide) (by decide) <| aw_le' (hJ_30 v3 D_4 h) ⟨rfl, trivial⟩
  · replace h := Ok.iff h c
    refine aw_iload_n (n := 18) (i := 2) dX11_needAir_17 rfl rfl rfl ?_
    refine aw_bipush (n := 20) (v := 24) dX11_needAir_18 rfl (by decide) ?_
    refine aw_cSi (M := M_X11_needAir) (n := 23) (As := [.int v2, .int 24]) (rest := []) lk_RX11_173 rfl rfl (c_X11_isBelow hG hS (h := Ok.bi h)) (by decide) (Nat.le_of_ble_eq_true rfl) (by decide) (by decide) dX11_needAir_20 rfl (fun y_9 D_10 h => ?_)
    refine aw_if_eq (n := 26) (tgt := 30) dX11_needAir_23 rfl (by decide) (fun c => ?_) (fun c => ?_)
    · replace h := Ok.ift h c
      exact aw_wid (by decide) (by decide) <| aw_le' (hJ_30 v3 D_10 h) ⟨rfl, trivial⟩
    · replace h := Ok.iff h c
      refine aw_iconst (n := 27) (v := 1) dX11_needAir_26 rfl (by decide) ?_
      refine aw_goto (tgt := 31) dX11_needAir_27 (by decide) ?_
      exact aw_wid (by decide) (by decide) <| aw_le' (hJ_31 v3 1 D_10 h) ⟨rfl, trivial⟩
theorem dX11_smell_0 : decode cX11_smell 0 = .ok (.iload_n 1, 1) := by decide +kernel
theorem dX11_smell_1 : decode cX11_smell 1 = .ok (.aload_n 0, 1) := by decide +kernel
theorem dX11_smell_2 : decode cX11_smell 2 = .ok (.getfield 20, 3) := by decide +kernel
theorem dX11_smell_5 : decode cX11_smell 5 = .ok (.getfield 146, 3) := by decide +kernel
theorem dX11_smell_8 : decode cX11_smell 8 = .ok (.invokestatic 173, 3) := by decide +kernel
theorem dX11_smell_11 : decode cX11_smell 11 = .ok (.invokestatic 121, 3) := by decide +kernel
theorem dX11_smell_14 : decode cX11_smell 14 = .ok (.aload_n 0, 1) := by decide +kernel
theorem dX11_smell_15 : decode cX11_smell 15 = .ok (.iload_n 2, 1) := by decide +kernel
theorem dX11_smell_16 : decode cX11_smell 16 = .ok (.iload_n 3, 1) := by decide +kernel
theorem dX11_smell_17 : decode cX11_smell 17 = .ok (.iload 4, 2) := by decide +kernel
theorem dX11_smell_19 : decode cX11_smell 19 = .ok (.invokevirtual 203, 3) := by decide +kernel
theorem dX11_smell_22 : decode cX11_smell 22 = .ok (.aload_n 0, 1) := by decide +kernel
theorem dX11_smell_23 : decode cX11_smell 23 = .ok (.getfield 51, 3) := by decide +kernel
theorem dX11_smell_26 : decode cX11_smell 26 = .ok (.iload_n 1, 1) := by decide +kernel
theorem dX11_smell_27 : decode cX11_smell 27 = .ok (.iload_n 2, 1) := by decide +kernel
theorem dX11_smell_28 : decode cX11_smell 28 = .ok (.iload_n 3, 1) := by decide +kernel
theorem dX11_smell_29 : decode cX11_smell 29 = .ok (.iload 4, 2) := by decide +kernel
theorem dX11_smell_31 : decode cX11_smell 31 = .ok (.invokevirtual 207, 3) := by decide +kernel
theorem dX11_smell_34 : decode cX11_smell 34 = .ok (.ireturn, 1) := by decide +kernel
def f_X11_smell (v1 : Int32) (v2 : Int32) (v3 : Int32) (v4 : Int32) (D : aD) : Option ((String ⊕ Int32) × aD) :=
  aBi (f_X11_isBelow v1 (gI D 2 4) D) (fun y_1 D_2 => aTry (f_X11_need y_1 D_2) (fun y_3 D_4 => aTry (f_X11_needAir v2 v3 v4 D_4) (fun y_5 D_6 => aBi (f_X0_plantScent v1 v2 v3 v4 D_6) (fun y_7 D_8 => some (.inr y_7, D_8)))))
set_option maxRecDepth 100000 in
set_option maxHeartbeats 800000 in
theorem c_X11_smell {G : aG} (hG : gOK G) {shp : List aSh} (hS : aShp shp) {fr : Option Nat} {v1 : Int32} {v2 : Int32} {v3 : Int32} {v4 : Int32} {D : aD} {K : (String ⊕ Int32) → aD → Prop} (h : Ok2 (f_X11_smell v1 v2 v3 v4 D) K) : AC G (aRm 9 3 18) M_X11_smell [.ref 0, .int v1, .int v2, .int v3, .int v4] fr shp D (aQxi shp K) := by
  replace h := Ok2.ok h
  unfold f_X11_smell at h
  refine AC.of (al := [some (.ref 0), some (.int v1), some (.int v2), some (.int v3), some (.int v4)]) (r := 0) (by decide) (Nat.le_of_ble_eq_true rfl) rfl ?_
  refine aw_iload_n (n := 1) (i := 1) dX11_smell_0 rfl rfl rfl ?_
  refine aw_aload_n (n := 2) (i := 0) dX11_smell_1 rfl rfl rfl ?_
  refine aw_getR (n := 5) (j := 3) (r := 2) hG.1 fl_RX11_20 (sF_0 hS) rfl dX11_smell_2 rfl ?_
  refine aw_getI (n := 8) (j := 4) hG.1 fl_RX11_146 (sF_2 hS) rfl dX11_smell_5 rfl ?_
  refine aw_cSi (M := M_X11_smell) (n := 11) (As := [.int v1, .int (gI D 2 4)]) (rest := []) lk_RX11_173 rfl rfl (c_X11_isBelow hG hS (h := Ok.bi h)) (by decide) (Nat.le_of_ble_eq_true rfl) (by decide) (by decide) dX11_smell_8 rfl (fun y_1 D_2 h => ?_)
  refine aw_cSxv (M := M_X11_smell) (n := 14) (As := [.int y_1]) (rest := []) (kn := 1) (kn2 := 6) lk_RX11_121 rfl rfl (c_X11_need hG hS (h := Ok.try_ h)) (by decide) (Nat.le_of_ble_eq_true rfl) rfl rfl (by decide) (by decide) rfl dX11_smell_11 rfl (fun E D hx => ⟨rfl, Or.inr ⟨E, rfl, hx⟩⟩) (fun y_3 D_4 h => ?_)
  refine aw_aload_n (n := 15) (i := 0) dX11_smell_14 rfl rfl rfl ?_
  refine aw_iload_n (n := 16) (i := 2) dX11_smell_15 rfl rfl rfl ?_
  refine aw_iload_n (n := 17) (i := 3) dX11_smell_16 rfl rfl rfl ?_
  refine aw_iload (n := 19) (i := 4) dX11_smell_17 rfl rfl ?_
  refine aw_cVxv (M := M_X11_smell) (n := 22) (As := [.int v2, .int v3, .int v4]) (rest := []) (kn := 3) (kn2 := 18) hG.1 lk_RX11_203 rfl rfl (sF_0 hS) (c_X11_needAir hG hS (h := Ok.try_ h)) (by decide) (Nat.le_of_ble_eq_true rfl) rfl rfl (by decide) (by decide) rfl dX11_smell_19 rfl (fun E D hx => ⟨rfl, Or.inr ⟨E, rfl, hx⟩⟩) (fun y_5 D_6 h => ?_)
  refine aw_aload_n (n := 23) (i := 0) dX11_smell_22 rfl rfl rfl ?_
  refine aw_getR (n := 26) (j := 9) (r := 57) hG.1 fl_RX11_51 (sF_0 hS) rfl dX11_smell_23 rfl ?_
  refine aw_iload_n (n := 27) (i := 1) dX11_smell_26 rfl rfl rfl ?_
  refine aw_iload_n (n := 28) (i := 2) dX11_smell_27 rfl rfl rfl ?_
  refine aw_iload_n (n := 29) (i := 3) dX11_smell_28 rfl rfl rfl ?_
  refine aw_iload (n := 31) (i := 4) dX11_smell_29 rfl rfl ?_
  refine aw_cVi (M := M_X11_smell) (n := 34) (As := [.int v1, .int v2, .int v3, .int v4]) (rest := []) hG.1 lk_RX11_207 rfl rfl (sF_57 hS) (c_X0_plantScent hG hS (h := Ok.bi h)) (by decide) (Nat.le_of_ble_eq_true rfl) (by decide) (by decide) dX11_smell_31 rfl (fun y_7 D_8 h => ?_)
  exact aw_iret rfl (by decide) (by decide) dX11_smell_34 ⟨rfl, Or.inl ⟨_, rfl, (Ok.dn h :)⟩⟩
theorem dX11_smelt_0 : decode cX11_smelt 0 = .ok (.iload_n 1, 1) := by decide +kernel
theorem dX11_smelt_1 : decode cX11_smelt 1 = .ok (.aload_n 0, 1) := by decide +kernel
theorem dX11_smelt_2 : decode cX11_smelt 2 = .ok (.getfield 20, 3) := by decide +kernel
theorem dX11_smelt_5 : decode cX11_smelt 5 = .ok (.getfield 140, 3) := by decide +kernel
theorem dX11_smelt_8 : decode cX11_smelt 8 = .ok (.invokestatic 173, 3) := by decide +kernel
theorem dX11_smelt_11 : decode cX11_smelt 11 = .ok (.ifCond .eq 16, 3) := by decide +kernel
theorem dX11_smelt_14 : decode cX11_smelt 14 = .ok (.iload 5, 2) := by decide +kernel
theorem dX11_smelt_16 : decode cX11_smelt 16 = .ok (.iconst 3, 1) := by decide +kernel
theorem dX11_smelt_17 : decode cX11_smelt 17 = .ok (.invokestatic 173, 3) := by decide +kernel
theorem dX11_smelt_20 : decode cX11_smelt 20 = .ok (.ifCond .eq 7, 3) := by decide +kernel
theorem dX11_smelt_23 : decode cX11_smelt 23 = .ok (.iconst 1, 1) := by decide +kernel
theorem dX11_smelt_24 : decode cX11_smelt 24 = .ok (.goto 4, 3) := by decide +kernel
theorem dX11_smelt_27 : decode cX11_smelt 27 = .ok (.iconst 0, 1) := by decide +kernel
theorem dX11_smelt_28 : decode cX11_smelt 28 = .ok (.invokestatic 121, 3) := by decide +kernel
theorem dX11_smelt_31 : decode cX11_smelt 31 = .ok (.aload_n 0, 1) := by decide +kernel
theorem dX11_smelt_32 : decode cX11_smelt 32 = .ok (.iload_n 2, 1) := by decide +kernel
theorem dX11_smelt_33 : decode cX11_smelt 33 = .ok (.iload_n 3, 1) := by decide +kernel
theorem dX11_smelt_34 : decode cX11_smelt 34 = .ok (.iload 4, 2) := by decide +kernel
theorem dX11_smelt_36 : decode cX11_smelt 36 = .ok (.invokevirtual 203, 3) := by decide +kernel
theorem dX11_smelt_39 : decode cX11_smelt 39 = .ok (.aload_n 0, 1) := by decide +kernel
theorem dX11_smelt_40 : decode cX11_smelt 40 = .ok (.getfield 51, 3) := by decide +kernel
theorem dX11_smelt_43 : decode cX11_smelt 43 = .ok (.iload_n 2, 1) := by decide +kernel
theorem dX11_smelt_44 : decode cX11_smelt 44 = .ok (.iload_n 3, 1) := by decide +kernel
theorem dX11_smelt_45 : decode cX11_smelt 45 = .ok (.iload 4, 2) := by decide +kernel
theorem dX11_smelt_47 : decode cX11_smelt 47 = .ok (.invokevirtual 211, 3) := by decide +kernel
theorem dX11_smelt_50 : decode cX11_smelt 50 = .ok (.iload 5, 2) := by decide +kernel
theorem dX11_smelt_52 : decode cX11_smelt 52 = .ok (.ifCond .ne 13, 3) := by decide +kernel
theorem dX11_smelt_55 : decode cX11_smelt 55 = .ok (.aload_n 0, 1) := by decide +kernel
theorem dX11_smelt_56 : decode cX11_smelt 56 = .ok (.getfield 51, 3) := by decide +kernel
theorem dX11_smelt_59 : decode cX11_smelt 59 = .ok (.getfield 214, 3) := by decide +kernel
theorem dX11_smelt_62 : decode cX11_smelt 62 = .ok (.iload_n 1, 1) := by decide +kernel
theorem dX11_smelt_63 : decode cX11_smelt 63 = .ok (.iaload, 1) := by decide +kernel
theorem dX11_smelt_64 : decode cX11_smelt 64 = .ok (.ireturn, 1) := by decide +kernel
theorem dX11_smelt_65 : decode cX11_smelt 65 = .ok (.aload_n 0, 1) := by decide +kernel
theorem dX11_smelt_66 : decode cX11_smelt 66 = .ok (.getfield 51, 3) := by decide +kernel
theorem dX11_smelt_69 : decode cX11_smelt 69 = .ok (.iload_n 1, 1) := by decide +kernel
theorem dX11_smelt_70 : decode cX11_smelt 70 = .ok (.invokevirtual 217, 3) := by decide +kernel
theorem dX11_smelt_73 : decode cX11_smelt 73 = .ok (.istore 6, 2) := by decide +kernel
theorem dX11_smelt_75 : decode cX11_smelt 75 = .ok (.iload 5, 2) := by decide +kernel
theorem dX11_smelt_77 : decode cX11_smelt 77 = .ok (.iconst 1, 1) := by decide +kernel
theorem dX11_smelt_78 : decode cX11_smelt 78 = .ok (.if_icmp .ne 8, 3) := by decide +kernel
theorem dX11_smelt_81 : decode cX11_smelt 81 = .ok (.iload 6, 2) := by decide +kernel
theorem dX11_smelt_83 : decode cX11_smelt 83 = .ok (.goto 12, 3) := by decide +kernel
theorem dX11_smelt_86 : decode cX11_smelt 86 = .ok (.aload_n 0, 1) := by decide +kernel
theorem dX11_smelt_87 : decode cX11_smelt 87 = .ok (.getfield 51, 3) := by decide +kernel
theorem dX11_smelt_90 : decode cX11_smelt 90 = .ok (.iload 6, 2) := by decide +kernel
theorem dX11_smelt_92 : decode cX11_smelt 92 = .ok (.invokevirtual 220, 3) := by decide +kernel
theorem dX11_smelt_95 : decode cX11_smelt 95 = .ok (.ireturn, 1) := by decide +kernel
def J_X11_smelt_28 (v1 : Int32) (v2 : Int32) (v3 : Int32) (v4 : Int32) (v5 : Int32) (t0 : Int32) (D : aD) : Option ((String ⊕ Int32) × aD) :=
  aTry (f_X11_need t0 D) (fun y_3 D_4 => aTry (f_X11_needAir v2 v3 v4 D_4) (fun y_5 D_6 => (f_X0_fill v2 v3 v4 D_6).bind (fun D_7 => if v5 ≠ 0 then (aBi (f_X0_masked v1 D_7) (fun y_8 D_9 => if v5 ≠ 1 then (aBi (f_X0_noticed y_8 D_9) (fun y_10 D_11 => some (.inr y_10, D_11))) else (some (.inr y_8, D_9)))) else (aGd (aIn v1 6) (some (.inr (gI D_7 58 v1.toNatClampNeg), D_7))))))
def J_X11_smelt_27 (v1 : Int32) (v2 : Int32) (v3 : Int32) (v4 : Int32) (v5 : Int32) (D : aD) : Option ((String ⊕ Int32) × aD) :=
  J_X11_smelt_28 v1 v2 v3 v4 v5 0 D
def f_X11_smelt (v1 : Int32) (v2 : Int32) (v3 : Int32) (v4 : Int32) (v5 : Int32) (D : aD) : Option ((String ⊕ Int32) × aD) :=
  aBi (f_X11_isBelow v1 (gI D 2 2) D) (fun y_1 D_2 => if y_1 = 0 then (J_X11_smelt_27 v1 v2 v3 v4 v5 D_2) else (aBi (f_X11_isBelow v5 3 D_2) (fun y_13 D_14 => if y_13 = 0 then (J_X11_smelt_27 v1 v2 v3 v4 v5 D_14) else (J_X11_smelt_28 v1 v2 v3 v4 v5 1 D_14))))
set_option maxRecDepth 100000 in
set_option maxHeartbeats 800000 in
theorem c_X11_smelt {G : aG} (hG : gOK G) {shp : List aSh} (hS : aShp shp) {fr : Option Nat} {v1 : Int32} {v2 : Int32} {v3 : Int32} {v4 : Int32} {v5 : Int32} {D : aD} {K : (String ⊕ Int32) → aD → Prop} (h : Ok2 (f_X11_smelt v1 v2 v3 v4 v5 D) K) : AC G (aRm 9 3 18) M_X11_smelt [.ref 0, .int v1, .int v2, .int v3, .int v4, .int v5] fr shp D (aQxi shp K) := by
  replace h := Ok2.ok h
  unfold f_X11_smelt at h
  refine AC.of (al := [some (.ref 0), some (.int v1), some (.int v2), some (.int v3), some (.int v4), some (.int v5), none]) (r := 1) (by decide) (Nat.le_of_ble_eq_true rfl) rfl ?_
  have hJ_28 : ∀ (v1 : Int32) (v2 : Int32) (v3 : Int32) (v4 : Int32) (v5 : Int32) (t0 : Int32) (D : aD), Ok (J_X11_smelt_28 v1 v2 v3 v4 v5 t0 D) (fun r => K r.1 r.2) → AW G (aRm 9 3 18) M_X11_smelt fr 0 0 28 [some (.ref 0), some (.int v1), some (.int v2), some (.int v3), some (.int v4), some (.int v5), none] [.int t0] shp D (aQxi shp K) := by
    intro v1 v2 v3 v4 v5 t0 D h
    unfold J_X11_smelt_28 at h
    refine aw_cSxv (M := M_X11_smelt) (n := 31) (As := [.int t0]) (rest := []) (kn := 1) (kn2 := 6) lk_RX11_121 rfl rfl (c_X11_need hG hS (h := Ok.try_ h)) (by decide) (Nat.le_of_ble_eq_true rfl) rfl rfl (by decide) (by decide) rfl dX11_smelt_28 rfl (fun E D hx => ⟨rfl, Or.inr ⟨E, rfl, hx⟩⟩) (fun y_3 D_4 h => ?_)
    refine aw_aload_n (n := 32) (i := 0) dX11_smelt_31 rfl rfl rfl ?_
    refine aw_iload_n (n := 33) (i := 2) dX11_smelt_32 rfl rfl rfl ?_
    refine aw_iload_n (n := 34) (i := 3) dX11_smelt_33 rfl rfl rfl ?_
    refine aw_iload (n := 36) (i := 4) dX11_smelt_34 rfl rfl ?_
    refine aw_cVxv (M := M_X11_smelt) (n := 39) (As := [.int v2, .int v3, .int v4]) (rest := []) (kn := 3) (kn2 := 18) hG.1 lk_RX11_203 rfl rfl (sF_0 hS) (c_X11_needAir hG hS (h := Ok.try_ h)) (by decide) (Nat.le_of_ble_eq_true rfl) rfl rfl (by decide) (by decide) rfl dX11_smelt_36 rfl (fun E D hx => ⟨rfl, Or.inr ⟨E, rfl, hx⟩⟩) (fun y_5 D_6 h => ?_)
    refine aw_aload_n (n := 40) (i := 0) dX11_smelt_39 rfl rfl rfl ?_
    refine aw_getR (n := 43) (j := 9) (r := 57) hG.1 fl_RX11_51 (sF_0 hS) rfl dX11_smelt_40 rfl ?_
    refine aw_iload_n (n := 44) (i := 2) dX11_smelt_43 rfl rfl rfl ?_
    refine aw_iload_n (n := 45) (i := 3) dX11_smelt_44 rfl rfl rfl ?_
    refine aw_iload (n := 47) (i := 4) dX11_smelt_45 rfl rfl ?_
    refine aw_cVv (M := M_X11_smelt) (n := 50) (As := [.int v2, .int v3, .int v4]) (rest := []) hG.1 lk_RX11_211 rfl rfl (sF_57 hS) (c_X0_fill hG hS (h := Ok.bind h)) (by decide) (Nat.le_of_ble_eq_true rfl) (by decide) (by decide) dX11_smelt_47 rfl (fun D_7 h => ?_)
    refine aw_iload (n := 52) (i := 5) dX11_smelt_50 rfl rfl ?_
    refine aw_if_ne (n := 55) (tgt := 65) dX11_smelt_52 rfl (by decide) (fun c => ?_) (fun c => ?_)
    · replace h := Ok.ift h c
      refine aw_aload_n (n := 66) (i := 0) dX11_smelt_65 rfl rfl rfl ?_
      refine aw_getR (n := 69) (j := 9) (r := 57) hG.1 fl_RX11_51 (sF_0 hS) rfl dX11_smelt_66 rfl ?_
      refine aw_iload_n (n := 70) (i := 1) dX11_smelt_69 rfl rfl rfl ?_
      refine aw_cVi (M := M_X11_smelt) (n := 73) (As := [.int v1]) (rest := []) hG.1 lk_RX11_217 rfl rfl (sF_57 hS) (c_X0_masked hG hS (h := Ok.bi h)) (by decide) (Nat.le_of_ble_eq_true rfl) (by decide) (by decide) dX11_smelt_70 rfl (fun y_8 D_9 h => ?_)
      refine aw_istore (n := 75) (i := 6) (al' := [some (.ref 0), some (.int v1), some (.int v2), some (.int v3), some (.int v4), some (.int v5), some (.int y_8)]) dX11_smelt_73 rfl rfl (by decide) rfl ?_
      refine aw_iload (n := 77) (i := 5) dX11_smelt_75 rfl rfl ?_
      refine aw_iconst (n := 78) (v := 1) dX11_smelt_77 rfl (by decide) ?_
      refine aw_icmp_ne (n := 81) (tgt := 86) dX11_smelt_78 rfl (by decide) (fun c => ?_) (fun c => ?_)
      · replace h := Ok.ift h c
        refine aw_aload_n (n := 87) (i := 0) dX11_smelt_86 rfl rfl rfl ?_
        refine aw_getR (n := 90) (j := 9) (r := 57) hG.1 fl_RX11_51 (sF_0 hS) rfl dX11_smelt_87 rfl ?_
        refine aw_iload (n := 92) (i := 6) dX11_smelt_90 rfl rfl ?_
        refine aw_cVi (M := M_X11_smelt) (n := 95) (As := [.int y_8]) (rest := []) hG.1 lk_RX11_220 rfl rfl (sF_57 hS) (c_X0_noticed hG hS (h := Ok.bi h)) (by decide) (Nat.le_of_ble_eq_true rfl) (by decide) (by decide) dX11_smelt_92 rfl (fun y_10 D_11 h => ?_)
        exact aw_iret rfl (by decide) (by decide) dX11_smelt_95 ⟨rfl, Or.inl ⟨_, rfl, (Ok.dn h :)⟩⟩
      · replace h := Ok.iffn h c
        refine aw_iload (n := 83) (i := 6) dX11_smelt_81 rfl rfl ?_
        refine aw_goto (tgt := 95) dX11_smelt_83 (by decide) ?_
        exact aw_iret rfl (by decide) (by decide) dX11_smelt_95 ⟨rfl, Or.inl ⟨_, rfl, (Ok.dn h :)⟩⟩
    · replace h := Ok.iffn h c
      refine aw_aload_n (n := 56) (i := 0) dX11_smelt_55 rfl rfl rfl ?_
      refine aw_getR (n := 59) (j := 9) (r := 57) hG.1 fl_RX11_51 (sF_0 hS) rfl dX11_smelt_56 rfl ?_
      refine aw_getR (n := 62) (j := 2) (r := 58) hG.1 fl_RX11_214 (sF_57 hS) rfl dX11_smelt_59 rfl ?_
      refine aw_iload_n (n := 63) (i := 1) dX11_smelt_62 rfl rfl rfl ?_
      obtain ⟨g_12, h⟩ := Ok.gd h
      refine aw_iaload (n := 64) hG.1 (sF_58 hS) (aIn_in g_12) dX11_smelt_63 rfl ?_
      exact aw_iret rfl (by decide) (by decide) dX11_smelt_64 ⟨rfl, Or.inl ⟨_, rfl, (Ok.dn h :)⟩⟩
  have hJ_27 : ∀ (v1 : Int32) (v2 : Int32) (v3 : Int32) (v4 : Int32) (v5 : Int32) (D : aD), Ok (J_X11_smelt_27 v1 v2 v3 v4 v5 D) (fun r => K r.1 r.2) → AW G (aRm 9 3 18) M_X11_smelt fr 0 0 27 [some (.ref 0), some (.int v1), some (.int v2), some (.int v3), some (.int v4), some (.int v5), none] [] shp D (aQxi shp K) := by
    intro v1 v2 v3 v4 v5 D h
    unfold J_X11_smelt_27 at h
    refine aw_iconst (n := 28) (v := 0) dX11_smelt_27 rfl (by decide) ?_
    exact aw_wid (by decide) (by decide) <| aw_le' (hJ_28 v1 v2 v3 v4 v5 0 D h) ⟨rfl, ⟨rfl, ⟨rfl, ⟨rfl, ⟨rfl, ⟨rfl, trivial⟩⟩⟩⟩⟩⟩
  refine aw_iload_n (n := 1) (i := 1) dX11_smelt_0 rfl rfl rfl ?_
  refine aw_aload_n (n := 2) (i := 0) dX11_smelt_1 rfl rfl rfl ?_
  refine aw_getR (n := 5) (j := 3) (r := 2) hG.1 fl_RX11_20 (sF_0 hS) rfl dX11_smelt_2 rfl ?_
  refine aw_getI (n := 8) (j := 2) hG.1 fl_RX11_140 (sF_2 hS) rfl dX11_smelt_5 rfl ?_
  refine aw_cSi (M := M_X11_smelt) (n := 11) (As := [.int v1, .int (gI D 2 2)]) (rest := []) lk_RX11_173 rfl rfl (c_X11_isBelow hG hS (h := Ok.bi h)) (by decide) (Nat.le_of_ble_eq_true rfl) (by decide) (by decide) dX11_smelt_8 rfl (fun y_1 D_2 h => ?_)
  refine aw_if_eq (n := 14) (tgt := 27) dX11_smelt_11 rfl (by decide) (fun c => ?_) (fun c => ?_)
  · replace h := Ok.ift h c
    exact aw_wid (by decide) (by decide) <| aw_le' (hJ_27 v1 v2 v3 v4 v5 D_2 h) ⟨rfl, ⟨rfl, ⟨rfl, ⟨rfl, ⟨rfl, ⟨rfl, trivial⟩⟩⟩⟩⟩⟩
  · replace h := Ok.iff h c
    refine aw_iload (n := 16) (i := 5) dX11_smelt_14 rfl rfl ?_
    refine aw_iconst (n := 17) (v := 3) dX11_smelt_16 rfl (by decide) ?_
    refine aw_cSi (M := M_X11_smelt) (n := 20) (As := [.int v5, .int 3]) (rest := []) lk_RX11_173 rfl rfl (c_X11_isBelow hG hS (h := Ok.bi h)) (by decide) (Nat.le_of_ble_eq_true rfl) (by decide) (by decide) dX11_smelt_17 rfl (fun y_13 D_14 h => ?_)
    refine aw_if_eq (n := 23) (tgt := 27) dX11_smelt_20 rfl (by decide) (fun c => ?_) (fun c => ?_)
    · replace h := Ok.ift h c
      exact aw_wid (by decide) (by decide) <| aw_le' (hJ_27 v1 v2 v3 v4 v5 D_14 h) ⟨rfl, ⟨rfl, ⟨rfl, ⟨rfl, ⟨rfl, ⟨rfl, trivial⟩⟩⟩⟩⟩⟩
    · replace h := Ok.iff h c
      refine aw_iconst (n := 24) (v := 1) dX11_smelt_23 rfl (by decide) ?_
      refine aw_goto (tgt := 28) dX11_smelt_24 (by decide) ?_
      exact aw_wid (by decide) (by decide) <| aw_le' (hJ_28 v1 v2 v3 v4 v5 1 D_14 h) ⟨rfl, ⟨rfl, ⟨rfl, ⟨rfl, ⟨rfl, ⟨rfl, trivial⟩⟩⟩⟩⟩⟩
theorem dX11_needGarden_0 : decode cX11_needGarden 0 = .ok (.iload_n 1, 1) := by decide +kernel
theorem dX11_needGarden_1 : decode cX11_needGarden 1 = .ok (.aload_n 0, 1) := by decide +kernel
theorem dX11_needGarden_2 : decode cX11_needGarden 2 = .ok (.getfield 20, 3) := by decide +kernel
theorem dX11_needGarden_5 : decode cX11_needGarden 5 = .ok (.getfield 143, 3) := by decide +kernel
theorem dX11_needGarden_8 : decode cX11_needGarden 8 = .ok (.invokestatic 173, 3) := by decide +kernel
theorem dX11_needGarden_11 : decode cX11_needGarden 11 = .ok (.invokestatic 121, 3) := by decide +kernel
theorem dX11_needGarden_14 : decode cX11_needGarden 14 = .ok (.return_, 1) := by decide +kernel
def f_X11_needGarden (v1 : Int32) (D : aD) : Option ((String ⊕ Int32) × aD) :=
  aBi (f_X11_isBelow v1 (gI D 2 3) D) (fun y_1 D_2 => aTry (f_X11_need y_1 D_2) (fun y_3 D_4 => some (.inr 0, D_4)))
set_option maxRecDepth 100000 in
set_option maxHeartbeats 800000 in
theorem c_X11_needGarden {G : aG} (hG : gOK G) {shp : List aSh} (hS : aShp shp) {fr : Option Nat} {v1 : Int32} {D : aD} {K : (String ⊕ Int32) → aD → Prop} (h : Ok2 (f_X11_needGarden v1 D) K) : AC G (aRm 7 1 6) M_X11_needGarden [.ref 0, .int v1] fr shp D (aQxv shp K) := by
  replace h := Ok2.ok h
  unfold f_X11_needGarden at h
  refine AC.of (al := [some (.ref 0), some (.int v1)]) (r := 0) (by decide) (Nat.le_of_ble_eq_true rfl) rfl ?_
  refine aw_iload_n (n := 1) (i := 1) dX11_needGarden_0 rfl rfl rfl ?_
  refine aw_aload_n (n := 2) (i := 0) dX11_needGarden_1 rfl rfl rfl ?_
  refine aw_getR (n := 5) (j := 3) (r := 2) hG.1 fl_RX11_20 (sF_0 hS) rfl dX11_needGarden_2 rfl ?_
  refine aw_getI (n := 8) (j := 3) hG.1 fl_RX11_143 (sF_2 hS) rfl dX11_needGarden_5 rfl ?_
  refine aw_cSi (M := M_X11_needGarden) (n := 11) (As := [.int v1, .int (gI D 2 3)]) (rest := []) lk_RX11_173 rfl rfl (c_X11_isBelow hG hS (h := Ok.bi h)) (by decide) (Nat.le_of_ble_eq_true rfl) (by decide) (by decide) dX11_needGarden_8 rfl (fun y_1 D_2 h => ?_)
  refine aw_cSxv (M := M_X11_needGarden) (n := 14) (As := [.int y_1]) (rest := []) (kn := 1) (kn2 := 6) lk_RX11_121 rfl rfl (c_X11_need hG hS (h := Ok.try_ h)) (by decide) (Nat.le_of_ble_eq_true rfl) rfl rfl (by decide) (by decide) rfl dX11_needGarden_11 rfl (fun E D hx => ⟨rfl, Or.inr ⟨E, rfl, hx⟩⟩) (fun y_3 D_4 h => ?_)
  exact aw_vret rfl (by decide) (by decide) dX11_needGarden_14 ⟨rfl, Or.inl ⟨rfl, (Ok.dn h :)⟩⟩
theorem dX11_mark_0 : decode cX11_mark 0 = .ok (.aload_n 0, 1) := by decide +kernel
theorem dX11_mark_1 : decode cX11_mark 1 = .ok (.iload_n 1, 1) := by decide +kernel
theorem dX11_mark_2 : decode cX11_mark 2 = .ok (.invokevirtual 223, 3) := by decide +kernel
theorem dX11_mark_5 : decode cX11_mark 5 = .ok (.aload_n 0, 1) := by decide +kernel
theorem dX11_mark_6 : decode cX11_mark 6 = .ok (.iload_n 2, 1) := by decide +kernel
theorem dX11_mark_7 : decode cX11_mark 7 = .ok (.iload_n 3, 1) := by decide +kernel
theorem dX11_mark_8 : decode cX11_mark 8 = .ok (.iload 4, 2) := by decide +kernel
theorem dX11_mark_10 : decode cX11_mark 10 = .ok (.invokevirtual 203, 3) := by decide +kernel
theorem dX11_mark_13 : decode cX11_mark 13 = .ok (.aload_n 0, 1) := by decide +kernel
theorem dX11_mark_14 : decode cX11_mark 14 = .ok (.getfield 51, 3) := by decide +kernel
theorem dX11_mark_17 : decode cX11_mark 17 = .ok (.iload_n 2, 1) := by decide +kernel
theorem dX11_mark_18 : decode cX11_mark 18 = .ok (.iload_n 3, 1) := by decide +kernel
theorem dX11_mark_19 : decode cX11_mark 19 = .ok (.iload 4, 2) := by decide +kernel
theorem dX11_mark_21 : decode cX11_mark 21 = .ok (.invokevirtual 211, 3) := by decide +kernel
theorem dX11_mark_24 : decode cX11_mark 24 = .ok (.aload_n 0, 1) := by decide +kernel
theorem dX11_mark_25 : decode cX11_mark 25 = .ok (.getfield 51, 3) := by decide +kernel
theorem dX11_mark_28 : decode cX11_mark 28 = .ok (.iload_n 1, 1) := by decide +kernel
theorem dX11_mark_29 : decode cX11_mark 29 = .ok (.invokevirtual 226, 3) := by decide +kernel
theorem dX11_mark_32 : decode cX11_mark 32 = .ok (.ireturn, 1) := by decide +kernel
def f_X11_mark (v1 : Int32) (v2 : Int32) (v3 : Int32) (v4 : Int32) (D : aD) : Option ((String ⊕ Int32) × aD) :=
  aTry (f_X11_needGarden v1 D) (fun y_1 D_2 => aTry (f_X11_needAir v2 v3 v4 D_2) (fun y_3 D_4 => (f_X0_fill v2 v3 v4 D_4).bind (fun D_5 => aBi (f_X0_markOf v1 D_5) (fun y_6 D_7 => some (.inr y_6, D_7)))))
set_option maxRecDepth 100000 in
set_option maxHeartbeats 800000 in
theorem c_X11_mark {G : aG} (hG : gOK G) {shp : List aSh} (hS : aShp shp) {fr : Option Nat} {v1 : Int32} {v2 : Int32} {v3 : Int32} {v4 : Int32} {D : aD} {K : (String ⊕ Int32) → aD → Prop} (h : Ok2 (f_X11_mark v1 v2 v3 v4 D) K) : AC G (aRm 9 3 18) M_X11_mark [.ref 0, .int v1, .int v2, .int v3, .int v4] fr shp D (aQxi shp K) := by
  replace h := Ok2.ok h
  unfold f_X11_mark at h
  refine AC.of (al := [some (.ref 0), some (.int v1), some (.int v2), some (.int v3), some (.int v4)]) (r := 0) (by decide) (Nat.le_of_ble_eq_true rfl) rfl ?_
  refine aw_aload_n (n := 1) (i := 0) dX11_mark_0 rfl rfl rfl ?_
  refine aw_iload_n (n := 2) (i := 1) dX11_mark_1 rfl rfl rfl ?_
  refine aw_cVxv (M := M_X11_mark) (n := 5) (As := [.int v1]) (rest := []) (kn := 1) (kn2 := 6) hG.1 lk_RX11_223 rfl rfl (sF_0 hS) (c_X11_needGarden hG hS (h := Ok.try_ h)) (by decide) (Nat.le_of_ble_eq_true rfl) rfl rfl (by decide) (by decide) rfl dX11_mark_2 rfl (fun E D hx => ⟨rfl, Or.inr ⟨E, rfl, hx⟩⟩) (fun y_1 D_2 h => ?_)
  refine aw_aload_n (n := 6) (i := 0) dX11_mark_5 rfl rfl rfl ?_
  refine aw_iload_n (n := 7) (i := 2) dX11_mark_6 rfl rfl rfl ?_
  refine aw_iload_n (n := 8) (i := 3) dX11_mark_7 rfl rfl rfl ?_
  refine aw_iload (n := 10) (i := 4) dX11_mark_8 rfl rfl ?_
  refine aw_cVxv (M := M_X11_mark) (n := 13) (As := [.int v2, .int v3, .int v4]) (rest := []) (kn := 3) (kn2 := 18) hG.1 lk_RX11_203 rfl rfl (sF_0 hS) (c_X11_needAir hG hS (h := Ok.try_ h)) (by decide) (Nat.le_of_ble_eq_true rfl) rfl rfl (by decide) (by decide) rfl dX11_mark_10 rfl (fun E D hx => ⟨rfl, Or.inr ⟨E, rfl, hx⟩⟩) (fun y_3 D_4 h => ?_)
  refine aw_aload_n (n := 14) (i := 0) dX11_mark_13 rfl rfl rfl ?_
  refine aw_getR (n := 17) (j := 9) (r := 57) hG.1 fl_RX11_51 (sF_0 hS) rfl dX11_mark_14 rfl ?_
  refine aw_iload_n (n := 18) (i := 2) dX11_mark_17 rfl rfl rfl ?_
  refine aw_iload_n (n := 19) (i := 3) dX11_mark_18 rfl rfl rfl ?_
  refine aw_iload (n := 21) (i := 4) dX11_mark_19 rfl rfl ?_
  refine aw_cVv (M := M_X11_mark) (n := 24) (As := [.int v2, .int v3, .int v4]) (rest := []) hG.1 lk_RX11_211 rfl rfl (sF_57 hS) (c_X0_fill hG hS (h := Ok.bind h)) (by decide) (Nat.le_of_ble_eq_true rfl) (by decide) (by decide) dX11_mark_21 rfl (fun D_5 h => ?_)
  refine aw_aload_n (n := 25) (i := 0) dX11_mark_24 rfl rfl rfl ?_
  refine aw_getR (n := 28) (j := 9) (r := 57) hG.1 fl_RX11_51 (sF_0 hS) rfl dX11_mark_25 rfl ?_
  refine aw_iload_n (n := 29) (i := 1) dX11_mark_28 rfl rfl rfl ?_
  refine aw_cVi (M := M_X11_mark) (n := 32) (As := [.int v1]) (rest := []) hG.1 lk_RX11_226 rfl rfl (sF_57 hS) (c_X0_markOf hG hS (h := Ok.bi h)) (by decide) (Nat.le_of_ble_eq_true rfl) (by decide) (by decide) dX11_mark_29 rfl (fun y_6 D_7 h => ?_)
  exact aw_iret rfl (by decide) (by decide) dX11_mark_32 ⟨rfl, Or.inl ⟨_, rfl, (Ok.dn h :)⟩⟩
theorem dX11_sum_0 : decode cX11_sum 0 = .ok (.aload_n 0, 1) := by decide +kernel
theorem dX11_sum_1 : decode cX11_sum 1 = .ok (.iload_n 1, 1) := by decide +kernel
theorem dX11_sum_2 : decode cX11_sum 2 = .ok (.invokevirtual 223, 3) := by decide +kernel
theorem dX11_sum_5 : decode cX11_sum 5 = .ok (.iload_n 2, 1) := by decide +kernel
theorem dX11_sum_6 : decode cX11_sum 6 = .ok (.invokestatic 229, 3) := by decide +kernel
theorem dX11_sum_9 : decode cX11_sum 9 = .ok (.aload_n 0, 1) := by decide +kernel
theorem dX11_sum_10 : decode cX11_sum 10 = .ok (.getfield 60, 3) := by decide +kernel
theorem dX11_sum_13 : decode cX11_sum 13 = .ok (.iload_n 2, 1) := by decide +kernel
theorem dX11_sum_14 : decode cX11_sum 14 = .ok (.invokevirtual 232, 3) := by decide +kernel
theorem dX11_sum_17 : decode cX11_sum 17 = .ok (.aload_n 0, 1) := by decide +kernel
theorem dX11_sum_18 : decode cX11_sum 18 = .ok (.getfield 60, 3) := by decide +kernel
theorem dX11_sum_21 : decode cX11_sum 21 = .ok (.iload_n 2, 1) := by decide +kernel
theorem dX11_sum_22 : decode cX11_sum 22 = .ok (.invokevirtual 235, 3) := by decide +kernel
theorem dX11_sum_25 : decode cX11_sum 25 = .ok (.aload_n 0, 1) := by decide +kernel
theorem dX11_sum_26 : decode cX11_sum 26 = .ok (.getfield 60, 3) := by decide +kernel
theorem dX11_sum_29 : decode cX11_sum 29 = .ok (.getfield 238, 3) := by decide +kernel
theorem dX11_sum_32 : decode cX11_sum 32 = .ok (.iload_n 1, 1) := by decide +kernel
theorem dX11_sum_33 : decode cX11_sum 33 = .ok (.iaload, 1) := by decide +kernel
theorem dX11_sum_34 : decode cX11_sum 34 = .ok (.ireturn, 1) := by decide +kernel
def f_X11_sum (v1 : Int32) (v2 : Int32) (D : aD) : Option ((String ⊕ Int32) × aD) :=
  aTry (f_X11_needGarden v1 D) (fun y_1 D_2 => aTry (f_X11_needWind v2 D_2) (fun y_3 D_4 => (f_X1_prepare v2 D_4).bind (fun D_5 => (f_X1_addUp v2 D_5).bind (fun D_6 => aGd (aIn v1 5) (some (.inr (gI D_6 66 v1.toNatClampNeg), D_6))))))
set_option maxRecDepth 100000 in
set_option maxHeartbeats 800000 in
theorem c_X11_sum {G : aG} (hG : gOK G) {shp : List aSh} (hS : aShp shp) {fr : Option Nat} {v1 : Int32} {v2 : Int32} {D : aD} {K : (String ⊕ Int32) → aD → Prop} (h : Ok2 (f_X11_sum v1 v2 D) K) : AC G (aRm 8 2 12) M_X11_sum [.ref 0, .int v1, .int v2] fr shp D (aQxi shp K) := by
  replace h := Ok2.ok h
  unfold f_X11_sum at h
  refine AC.of (al := [some (.ref 0), some (.int v1), some (.int v2)]) (r := 0) (by decide) (Nat.le_of_ble_eq_true rfl) rfl ?_
  refine aw_aload_n (n := 1) (i := 0) dX11_sum_0 rfl rfl rfl ?_
  refine aw_iload_n (n := 2) (i := 1) dX11_sum_1 rfl rfl rfl ?_
  refine aw_cVxv (M := M_X11_sum) (n := 5) (As := [.int v1]) (rest := []) (kn := 1) (kn2 := 6) hG.1 lk_RX11_223 rfl rfl (sF_0 hS) (c_X11_needGarden hG hS (h := Ok.try_ h)) (by decide) (Nat.le_of_ble_eq_true rfl) rfl rfl (by decide) (by decide) rfl dX11_sum_2 rfl (fun E D hx => ⟨rfl, Or.inr ⟨E, rfl, hx⟩⟩) (fun y_1 D_2 h => ?_)
  refine aw_iload_n (n := 6) (i := 2) dX11_sum_5 rfl rfl rfl ?_
  refine aw_cSxv (M := M_X11_sum) (n := 9) (As := [.int v2]) (rest := []) (kn := 2) (kn2 := 12) lk_RX11_229 rfl rfl (c_X11_needWind hG hS (h := Ok.try_ h)) (by decide) (Nat.le_of_ble_eq_true rfl) rfl rfl (by decide) (by decide) rfl dX11_sum_6 rfl (fun E D hx => ⟨rfl, Or.inr ⟨E, rfl, hx⟩⟩) (fun y_3 D_4 h => ?_)
  refine aw_aload_n (n := 10) (i := 0) dX11_sum_9 rfl rfl rfl ?_
  refine aw_getR (n := 13) (j := 10) (r := 60) hG.1 fl_RX11_60 (sF_0 hS) rfl dX11_sum_10 rfl ?_
  refine aw_iload_n (n := 14) (i := 2) dX11_sum_13 rfl rfl rfl ?_
  refine aw_cVv (M := M_X11_sum) (n := 17) (As := [.int v2]) (rest := []) hG.1 lk_RX11_232 rfl rfl (sF_60 hS) (c_X1_prepare hG hS (h := Ok.bind h)) (by decide) (Nat.le_of_ble_eq_true rfl) (by decide) (by decide) dX11_sum_14 rfl (fun D_5 h => ?_)
  refine aw_aload_n (n := 18) (i := 0) dX11_sum_17 rfl rfl rfl ?_
  refine aw_getR (n := 21) (j := 10) (r := 60) hG.1 fl_RX11_60 (sF_0 hS) rfl dX11_sum_18 rfl ?_
  refine aw_iload_n (n := 22) (i := 2) dX11_sum_21 rfl rfl rfl ?_
  refine aw_cVv (M := M_X11_sum) (n := 25) (As := [.int v2]) (rest := []) hG.1 lk_RX11_235 rfl rfl (sF_60 hS) (c_X1_addUp hG hS (h := Ok.bind h)) (by decide) (Nat.le_of_ble_eq_true rfl) (by decide) (by decide) dX11_sum_22 rfl (fun D_6 h => ?_)
  refine aw_aload_n (n := 26) (i := 0) dX11_sum_25 rfl rfl rfl ?_
  refine aw_getR (n := 29) (j := 10) (r := 60) hG.1 fl_RX11_60 (sF_0 hS) rfl dX11_sum_26 rfl ?_
  refine aw_getR (n := 32) (j := 9) (r := 66) hG.1 fl_RX11_238 (sF_60 hS) rfl dX11_sum_29 rfl ?_
  refine aw_iload_n (n := 33) (i := 1) dX11_sum_32 rfl rfl rfl ?_
  obtain ⟨g_7, h⟩ := Ok.gd h
  refine aw_iaload (n := 34) hG.1 (sF_66 hS) (aIn_in g_7) dX11_sum_33 rfl ?_
  exact aw_iret rfl (by decide) (by decide) dX11_sum_34 ⟨rfl, Or.inl ⟨_, rfl, (Ok.dn h :)⟩⟩
theorem dX11_winner_0 : decode cX11_winner 0 = .ok (.iload_n 1, 1) := by decide +kernel
theorem dX11_winner_1 : decode cX11_winner 1 = .ok (.invokestatic 229, 3) := by decide +kernel
theorem dX11_winner_4 : decode cX11_winner 4 = .ok (.iload_n 2, 1) := by decide +kernel
theorem dX11_winner_5 : decode cX11_winner 5 = .ok (.iconst 2, 1) := by decide +kernel
theorem dX11_winner_6 : decode cX11_winner 6 = .ok (.invokestatic 173, 3) := by decide +kernel
theorem dX11_winner_9 : decode cX11_winner 9 = .ok (.invokestatic 121, 3) := by decide +kernel
theorem dX11_winner_12 : decode cX11_winner 12 = .ok (.aload_n 0, 1) := by decide +kernel
theorem dX11_winner_13 : decode cX11_winner 13 = .ok (.getfield 20, 3) := by decide +kernel
theorem dX11_winner_16 : decode cX11_winner 16 = .ok (.getfield 143, 3) := by decide +kernel
theorem dX11_winner_19 : decode cX11_winner 19 = .ok (.ifCond .ne 5, 3) := by decide +kernel
theorem dX11_winner_22 : decode cX11_winner 22 = .ok (.iconst (-1), 1) := by decide +kernel
theorem dX11_winner_23 : decode cX11_winner 23 = .ok (.ireturn, 1) := by decide +kernel
theorem dX11_winner_24 : decode cX11_winner 24 = .ok (.aload_n 0, 1) := by decide +kernel
theorem dX11_winner_25 : decode cX11_winner 25 = .ok (.getfield 60, 3) := by decide +kernel
theorem dX11_winner_28 : decode cX11_winner 28 = .ok (.iload_n 1, 1) := by decide +kernel
theorem dX11_winner_29 : decode cX11_winner 29 = .ok (.invokevirtual 232, 3) := by decide +kernel
theorem dX11_winner_32 : decode cX11_winner 32 = .ok (.aload_n 0, 1) := by decide +kernel
theorem dX11_winner_33 : decode cX11_winner 33 = .ok (.getfield 60, 3) := by decide +kernel
theorem dX11_winner_36 : decode cX11_winner 36 = .ok (.iload_n 1, 1) := by decide +kernel
theorem dX11_winner_37 : decode cX11_winner 37 = .ok (.invokevirtual 235, 3) := by decide +kernel
theorem dX11_winner_40 : decode cX11_winner 40 = .ok (.iload_n 2, 1) := by decide +kernel
theorem dX11_winner_41 : decode cX11_winner 41 = .ok (.ifCond .ne 13, 3) := by decide +kernel
theorem dX11_winner_44 : decode cX11_winner 44 = .ok (.aload_n 0, 1) := by decide +kernel
theorem dX11_winner_45 : decode cX11_winner 45 = .ok (.getfield 60, 3) := by decide +kernel
theorem dX11_winner_48 : decode cX11_winner 48 = .ok (.invokevirtual 241, 3) := by decide +kernel
theorem dX11_winner_51 : decode cX11_winner 51 = .ok (.goto 10, 3) := by decide +kernel
theorem dX11_winner_54 : decode cX11_winner 54 = .ok (.aload_n 0, 1) := by decide +kernel
theorem dX11_winner_55 : decode cX11_winner 55 = .ok (.getfield 60, 3) := by decide +kernel
theorem dX11_winner_58 : decode cX11_winner 58 = .ok (.invokevirtual 245, 3) := by decide +kernel
theorem dX11_winner_61 : decode cX11_winner 61 = .ok (.ireturn, 1) := by decide +kernel
def f_X11_winner (v1 : Int32) (v2 : Int32) (D : aD) : Option ((String ⊕ Int32) × aD) :=
  aTry (f_X11_needWind v1 D) (fun y_1 D_2 => aBi (f_X11_isBelow v2 2 D_2) (fun y_3 D_4 => aTry (f_X11_need y_3 D_4) (fun y_5 D_6 => if gI D_6 2 3 ≠ 0 then ((f_X1_prepare v1 D_6).bind (fun D_7 => (f_X1_addUp v1 D_7).bind (fun D_8 => if v2 ≠ 0 then (aBi (f_X1_lead D_8) (fun y_9 D_10 => some (.inr y_9, D_10))) else (aBi (f_X1_first D_8) (fun y_11 D_12 => some (.inr y_11, D_12)))))) else (some (.inr (-1), D_6)))))
set_option maxRecDepth 100000 in
set_option maxHeartbeats 800000 in
theorem c_X11_winner {G : aG} (hG : gOK G) {shp : List aSh} (hS : aShp shp) {fr : Option Nat} {v1 : Int32} {v2 : Int32} {D : aD} {K : (String ⊕ Int32) → aD → Prop} (h : Ok2 (f_X11_winner v1 v2 D) K) : AC G (aRm 8 2 12) M_X11_winner [.ref 0, .int v1, .int v2] fr shp D (aQxi shp K) := by
  replace h := Ok2.ok h
  unfold f_X11_winner at h
  refine AC.of (al := [some (.ref 0), some (.int v1), some (.int v2)]) (r := 0) (by decide) (Nat.le_of_ble_eq_true rfl) rfl ?_
  refine aw_iload_n (n := 1) (i := 1) dX11_winner_0 rfl rfl rfl ?_
  refine aw_cSxv (M := M_X11_winner) (n := 4) (As := [.int v1]) (rest := []) (kn := 1) (kn2 := 6) lk_RX11_229 rfl rfl (c_X11_needWind hG hS (h := Ok.try_ h)) (by decide) (Nat.le_of_ble_eq_true rfl) rfl rfl (by decide) (by decide) rfl dX11_winner_1 rfl (fun E D hx => ⟨rfl, Or.inr ⟨E, rfl, hx⟩⟩) (fun y_1 D_2 h => ?_)
  refine aw_iload_n (n := 5) (i := 2) dX11_winner_4 rfl rfl rfl ?_
  refine aw_iconst (n := 6) (v := 2) dX11_winner_5 rfl (by decide) ?_
  refine aw_cSi (M := M_X11_winner) (n := 9) (As := [.int v2, .int 2]) (rest := []) lk_RX11_173 rfl rfl (c_X11_isBelow hG hS (h := Ok.bi h)) (by decide) (Nat.le_of_ble_eq_true rfl) (by decide) (by decide) dX11_winner_6 rfl (fun y_3 D_4 h => ?_)
  refine aw_cSxv (M := M_X11_winner) (n := 12) (As := [.int y_3]) (rest := []) (kn := 2) (kn2 := 12) lk_RX11_121 rfl rfl (c_X11_need hG hS (h := Ok.try_ h)) (by decide) (Nat.le_of_ble_eq_true rfl) rfl rfl (by decide) (by decide) rfl dX11_winner_9 rfl (fun E D hx => ⟨rfl, Or.inr ⟨E, rfl, hx⟩⟩) (fun y_5 D_6 h => ?_)
  refine aw_aload_n (n := 13) (i := 0) dX11_winner_12 rfl rfl rfl ?_
  refine aw_getR (n := 16) (j := 3) (r := 2) hG.1 fl_RX11_20 (sF_0 hS) rfl dX11_winner_13 rfl ?_
  refine aw_getI (n := 19) (j := 3) hG.1 fl_RX11_143 (sF_2 hS) rfl dX11_winner_16 rfl ?_
  refine aw_if_ne (n := 22) (tgt := 24) dX11_winner_19 rfl (by decide) (fun c => ?_) (fun c => ?_)
  · replace h := Ok.ift h c
    refine aw_aload_n (n := 25) (i := 0) dX11_winner_24 rfl rfl rfl ?_
    refine aw_getR (n := 28) (j := 10) (r := 60) hG.1 fl_RX11_60 (sF_0 hS) rfl dX11_winner_25 rfl ?_
    refine aw_iload_n (n := 29) (i := 1) dX11_winner_28 rfl rfl rfl ?_
    refine aw_cVv (M := M_X11_winner) (n := 32) (As := [.int v1]) (rest := []) hG.1 lk_RX11_232 rfl rfl (sF_60 hS) (c_X1_prepare hG hS (h := Ok.bind h)) (by decide) (Nat.le_of_ble_eq_true rfl) (by decide) (by decide) dX11_winner_29 rfl (fun D_7 h => ?_)
    refine aw_aload_n (n := 33) (i := 0) dX11_winner_32 rfl rfl rfl ?_
    refine aw_getR (n := 36) (j := 10) (r := 60) hG.1 fl_RX11_60 (sF_0 hS) rfl dX11_winner_33 rfl ?_
    refine aw_iload_n (n := 37) (i := 1) dX11_winner_36 rfl rfl rfl ?_
    refine aw_cVv (M := M_X11_winner) (n := 40) (As := [.int v1]) (rest := []) hG.1 lk_RX11_235 rfl rfl (sF_60 hS) (c_X1_addUp hG hS (h := Ok.bind h)) (by decide) (Nat.le_of_ble_eq_true rfl) (by decide) (by decide) dX11_winner_37 rfl (fun D_8 h => ?_)
    refine aw_iload_n (n := 41) (i := 2) dX11_winner_40 rfl rfl rfl ?_
    refine aw_if_ne (n := 44) (tgt := 54) dX11_winner_41 rfl (by decide) (fun c => ?_) (fun c => ?_)
    · replace h := Ok.ift h c
      refine aw_aload_n (n := 55) (i := 0) dX11_winner_54 rfl rfl rfl ?_
      refine aw_getR (n := 58) (j := 10) (r := 60) hG.1 fl_RX11_60 (sF_0 hS) rfl dX11_winner_55 rfl ?_
      refine aw_cVi (M := M_X11_winner) (n := 61) (As := []) (rest := []) hG.1 lk_RX11_245 rfl rfl (sF_60 hS) (c_X1_lead hG hS (h := Ok.bi h)) (by decide) (Nat.le_of_ble_eq_true rfl) (by decide) (by decide) dX11_winner_58 rfl (fun y_9 D_10 h => ?_)
      exact aw_iret rfl (by decide) (by decide) dX11_winner_61 ⟨rfl, Or.inl ⟨_, rfl, (Ok.dn h :)⟩⟩
    · replace h := Ok.iffn h c
      refine aw_aload_n (n := 45) (i := 0) dX11_winner_44 rfl rfl rfl ?_
      refine aw_getR (n := 48) (j := 10) (r := 60) hG.1 fl_RX11_60 (sF_0 hS) rfl dX11_winner_45 rfl ?_
      refine aw_cVi (M := M_X11_winner) (n := 51) (As := []) (rest := []) hG.1 lk_RX11_241 rfl rfl (sF_60 hS) (c_X1_first hG hS (h := Ok.bi h)) (by decide) (Nat.le_of_ble_eq_true rfl) (by decide) (by decide) dX11_winner_48 rfl (fun y_11 D_12 h => ?_)
      refine aw_goto (tgt := 61) dX11_winner_51 (by decide) ?_
      exact aw_iret rfl (by decide) (by decide) dX11_winner_61 ⟨rfl, Or.inl ⟨_, rfl, (Ok.dn h :)⟩⟩
  · replace h := Ok.iffn h c
    refine aw_iconst (n := 23) (v := (-1)) dX11_winner_22 rfl (by decide) ?_
    exact aw_iret rfl (by decide) (by decide) dX11_winner_23 ⟨rfl, Or.inl ⟨_, rfl, (Ok.dn h :)⟩⟩
theorem dX11_prize_0 : decode cX11_prize 0 = .ok (.aload_n 0, 1) := by decide +kernel
theorem dX11_prize_1 : decode cX11_prize 1 = .ok (.iload_n 1, 1) := by decide +kernel
theorem dX11_prize_2 : decode cX11_prize 2 = .ok (.invokevirtual 223, 3) := by decide +kernel
theorem dX11_prize_5 : decode cX11_prize 5 = .ok (.iload_n 2, 1) := by decide +kernel
theorem dX11_prize_6 : decode cX11_prize 6 = .ok (.invokestatic 229, 3) := by decide +kernel
theorem dX11_prize_9 : decode cX11_prize 9 = .ok (.iload_n 3, 1) := by decide +kernel
theorem dX11_prize_10 : decode cX11_prize 10 = .ok (.ifCond .lt 10, 3) := by decide +kernel
theorem dX11_prize_13 : decode cX11_prize 13 = .ok (.iload_n 3, 1) := by decide +kernel
theorem dX11_prize_14 : decode cX11_prize 14 = .ok (.sipush 9999, 3) := by decide +kernel
theorem dX11_prize_17 : decode cX11_prize 17 = .ok (.if_icmp .le 13, 3) := by decide +kernel
theorem dX11_prize_20 : decode cX11_prize 20 = .ok (.new 94, 3) := by decide +kernel
theorem dX11_prize_23 : decode cX11_prize 23 = .ok (.dup, 1) := by decide +kernel
theorem dX11_prize_24 : decode cX11_prize 24 = .ok (.ldc 248, 2) := by decide +kernel
theorem dX11_prize_26 : decode cX11_prize 26 = .ok (.invokespecial 98, 3) := by decide +kernel
theorem dX11_prize_29 : decode cX11_prize 29 = .ok (.athrow, 1) := by decide +kernel
theorem dX11_prize_30 : decode cX11_prize 30 = .ok (.aload_n 0, 1) := by decide +kernel
theorem dX11_prize_31 : decode cX11_prize 31 = .ok (.getfield 60, 3) := by decide +kernel
theorem dX11_prize_34 : decode cX11_prize 34 = .ok (.iload_n 2, 1) := by decide +kernel
theorem dX11_prize_35 : decode cX11_prize 35 = .ok (.invokevirtual 232, 3) := by decide +kernel
theorem dX11_prize_38 : decode cX11_prize 38 = .ok (.aload_n 0, 1) := by decide +kernel
theorem dX11_prize_39 : decode cX11_prize 39 = .ok (.getfield 60, 3) := by decide +kernel
theorem dX11_prize_42 : decode cX11_prize 42 = .ok (.iload_n 2, 1) := by decide +kernel
theorem dX11_prize_43 : decode cX11_prize 43 = .ok (.invokevirtual 235, 3) := by decide +kernel
theorem dX11_prize_46 : decode cX11_prize 46 = .ok (.aload_n 0, 1) := by decide +kernel
theorem dX11_prize_47 : decode cX11_prize 47 = .ok (.getfield 60, 3) := by decide +kernel
theorem dX11_prize_50 : decode cX11_prize 50 = .ok (.iload_n 1, 1) := by decide +kernel
theorem dX11_prize_51 : decode cX11_prize 51 = .ok (.iload_n 3, 1) := by decide +kernel
theorem dX11_prize_52 : decode cX11_prize 52 = .ok (.invokevirtual 250, 3) := by decide +kernel
theorem dX11_prize_55 : decode cX11_prize 55 = .ok (.ireturn, 1) := by decide +kernel
def J_X11_prize_20 (D : aD) : Option ((String ⊕ Int32) × aD) :=
  some (.inl "java/lang/IllegalArgumentException", D)
def f_X11_prize (v1 : Int32) (v2 : Int32) (v3 : Int32) (D : aD) : Option ((String ⊕ Int32) × aD) :=
  aTry (f_X11_needGarden v1 D) (fun y_1 D_2 => aTry (f_X11_needWind v2 D_2) (fun y_3 D_4 => if v3 < 0 then (J_X11_prize_20 D_4) else (if v3 ≤ 9999 then ((f_X1_prepare v2 D_4).bind (fun D_5 => (f_X1_addUp v2 D_5).bind (fun D_6 => aBi (f_X1_prizePart v1 v3 D_6) (fun y_7 D_8 => some (.inr y_7, D_8))))) else (J_X11_prize_20 D_4))))
set_option maxRecDepth 100000 in
set_option maxHeartbeats 800000 in
theorem c_X11_prize {G : aG} (hG : gOK G) {shp : List aSh} (hS : aShp shp) {fr : Option Nat} {v1 : Int32} {v2 : Int32} {v3 : Int32} {D : aD} {K : (String ⊕ Int32) → aD → Prop} (h : Ok2 (f_X11_prize v1 v2 v3 D) K) : AC G (aRm 8 3 18) M_X11_prize [.ref 0, .int v1, .int v2, .int v3] fr shp D (aQxi shp K) := by
  replace h := Ok2.ok h
  unfold f_X11_prize at h
  refine AC.of (al := [some (.ref 0), some (.int v1), some (.int v2), some (.int v3)]) (r := 0) (by decide) (Nat.le_of_ble_eq_true rfl) rfl ?_
  have hJ_20 : ∀ (D : aD), Ok (J_X11_prize_20 D) (fun r => K r.1 r.2) → AW G (aRm 8 3 18) M_X11_prize fr 2 12 20 [none, none, none, none] [] shp D (aQxi shp K) := by
    intro D h
    unfold J_X11_prize_20 at h
    exact aw_throw (M := M_X11_prize) (sk := 10000 + 15) (names := ["java/lang/RuntimeException", "java/lang/Exception"]) hG.2.2.2.1 (by decide) (by decide) kx_RX11_98.1 kx_RX11_98.2.1 (gS_RX11_248 hG) kx_RX11_98.2.2 dX11_prize_20 dX11_prize_23 dX11_prize_24 dX11_prize_26 dX11_prize_29 (by decide) (by decide) (by decide) (by decide) ⟨rfl, Or.inr ⟨_, rfl, (Ok.dn h :)⟩⟩
  refine aw_aload_n (n := 1) (i := 0) dX11_prize_0 rfl rfl rfl ?_
  refine aw_iload_n (n := 2) (i := 1) dX11_prize_1 rfl rfl rfl ?_
  refine aw_cVxv (M := M_X11_prize) (n := 5) (As := [.int v1]) (rest := []) (kn := 1) (kn2 := 6) hG.1 lk_RX11_223 rfl rfl (sF_0 hS) (c_X11_needGarden hG hS (h := Ok.try_ h)) (by decide) (Nat.le_of_ble_eq_true rfl) rfl rfl (by decide) (by decide) rfl dX11_prize_2 rfl (fun E D hx => ⟨rfl, Or.inr ⟨E, rfl, hx⟩⟩) (fun y_1 D_2 h => ?_)
  refine aw_iload_n (n := 6) (i := 2) dX11_prize_5 rfl rfl rfl ?_
  refine aw_cSxv (M := M_X11_prize) (n := 9) (As := [.int v2]) (rest := []) (kn := 2) (kn2 := 12) lk_RX11_229 rfl rfl (c_X11_needWind hG hS (h := Ok.try_ h)) (by decide) (Nat.le_of_ble_eq_true rfl) rfl rfl (by decide) (by decide) rfl dX11_prize_6 rfl (fun E D hx => ⟨rfl, Or.inr ⟨E, rfl, hx⟩⟩) (fun y_3 D_4 h => ?_)
  refine aw_iload_n (n := 10) (i := 3) dX11_prize_9 rfl rfl rfl ?_
  refine aw_if_lt (n := 13) (tgt := 20) dX11_prize_10 rfl (by decide) (fun c => ?_) (fun c => ?_)
  · replace h := Ok.ift h c
    exact aw_wid (by decide) (by decide) <| aw_le' (hJ_20 D_4 h) trivial
  · replace h := Ok.iff h c
    refine aw_iload_n (n := 14) (i := 3) dX11_prize_13 rfl rfl rfl ?_
    refine aw_sipush (n := 17) (v := 9999) dX11_prize_14 rfl (by decide) ?_
    refine aw_icmp_le (n := 20) (tgt := 30) dX11_prize_17 rfl (by decide) (fun c => ?_) (fun c => ?_)
    · replace h := Ok.ift h c
      refine aw_aload_n (n := 31) (i := 0) dX11_prize_30 rfl rfl rfl ?_
      refine aw_getR (n := 34) (j := 10) (r := 60) hG.1 fl_RX11_60 (sF_0 hS) rfl dX11_prize_31 rfl ?_
      refine aw_iload_n (n := 35) (i := 2) dX11_prize_34 rfl rfl rfl ?_
      refine aw_cVv (M := M_X11_prize) (n := 38) (As := [.int v2]) (rest := []) hG.1 lk_RX11_232 rfl rfl (sF_60 hS) (c_X1_prepare hG hS (h := Ok.bind h)) (by decide) (Nat.le_of_ble_eq_true rfl) (by decide) (by decide) dX11_prize_35 rfl (fun D_5 h => ?_)
      refine aw_aload_n (n := 39) (i := 0) dX11_prize_38 rfl rfl rfl ?_
      refine aw_getR (n := 42) (j := 10) (r := 60) hG.1 fl_RX11_60 (sF_0 hS) rfl dX11_prize_39 rfl ?_
      refine aw_iload_n (n := 43) (i := 2) dX11_prize_42 rfl rfl rfl ?_
      refine aw_cVv (M := M_X11_prize) (n := 46) (As := [.int v2]) (rest := []) hG.1 lk_RX11_235 rfl rfl (sF_60 hS) (c_X1_addUp hG hS (h := Ok.bind h)) (by decide) (Nat.le_of_ble_eq_true rfl) (by decide) (by decide) dX11_prize_43 rfl (fun D_6 h => ?_)
      refine aw_aload_n (n := 47) (i := 0) dX11_prize_46 rfl rfl rfl ?_
      refine aw_getR (n := 50) (j := 10) (r := 60) hG.1 fl_RX11_60 (sF_0 hS) rfl dX11_prize_47 rfl ?_
      refine aw_iload_n (n := 51) (i := 1) dX11_prize_50 rfl rfl rfl ?_
      refine aw_iload_n (n := 52) (i := 3) dX11_prize_51 rfl rfl rfl ?_
      refine aw_cVi (M := M_X11_prize) (n := 55) (As := [.int v1, .int v3]) (rest := []) hG.1 lk_RX11_250 rfl rfl (sF_60 hS) (c_X1_prizePart hG hS (h := Ok.bi h)) (by decide) (Nat.le_of_ble_eq_true rfl) (by decide) (by decide) dX11_prize_52 rfl (fun y_7 D_8 h => ?_)
      exact aw_iret rfl (by decide) (by decide) dX11_prize_55 ⟨rfl, Or.inl ⟨_, rfl, (Ok.dn h :)⟩⟩
    · replace h := Ok.iff h c
      exact aw_wid (by decide) (by decide) <| aw_le' (hJ_20 D_4 h) trivial
theorem dX11_greatestDivisor_0 : decode cX11_greatestDivisor 0 = .ok (.iload_n 0, 1) := by decide +kernel
theorem dX11_greatestDivisor_1 : decode cX11_greatestDivisor 1 = .ok (.istore_n 2, 1) := by decide +kernel
theorem dX11_greatestDivisor_2 : decode cX11_greatestDivisor 2 = .ok (.iload_n 1, 1) := by decide +kernel
theorem dX11_greatestDivisor_3 : decode cX11_greatestDivisor 3 = .ok (.istore_n 3, 1) := by decide +kernel
theorem dX11_greatestDivisor_4 : decode cX11_greatestDivisor 4 = .ok (.iconst 0, 1) := by decide +kernel
theorem dX11_greatestDivisor_5 : decode cX11_greatestDivisor 5 = .ok (.istore 4, 2) := by decide +kernel
theorem dX11_greatestDivisor_7 : decode cX11_greatestDivisor 7 = .ok (.iload 4, 2) := by decide +kernel
theorem dX11_greatestDivisor_9 : decode cX11_greatestDivisor 9 = .ok (.sipush 9999, 3) := by decide +kernel
theorem dX11_greatestDivisor_12 : decode cX11_greatestDivisor 12 = .ok (.if_icmp .ge 23, 3) := by decide +kernel
theorem dX11_greatestDivisor_15 : decode cX11_greatestDivisor 15 = .ok (.iload_n 3, 1) := by decide +kernel
theorem dX11_greatestDivisor_16 : decode cX11_greatestDivisor 16 = .ok (.ifCond .le 19, 3) := by decide +kernel
theorem dX11_greatestDivisor_19 : decode cX11_greatestDivisor 19 = .ok (.iload_n 2, 1) := by decide +kernel
theorem dX11_greatestDivisor_20 : decode cX11_greatestDivisor 20 = .ok (.iload_n 3, 1) := by decide +kernel
theorem dX11_greatestDivisor_21 : decode cX11_greatestDivisor 21 = .ok (.irem, 1) := by decide +kernel
theorem dX11_greatestDivisor_22 : decode cX11_greatestDivisor 22 = .ok (.istore 5, 2) := by decide +kernel
theorem dX11_greatestDivisor_24 : decode cX11_greatestDivisor 24 = .ok (.iload_n 3, 1) := by decide +kernel
theorem dX11_greatestDivisor_25 : decode cX11_greatestDivisor 25 = .ok (.istore_n 2, 1) := by decide +kernel
theorem dX11_greatestDivisor_26 : decode cX11_greatestDivisor 26 = .ok (.iload 5, 2) := by decide +kernel
theorem dX11_greatestDivisor_28 : decode cX11_greatestDivisor 28 = .ok (.istore_n 3, 1) := by decide +kernel
theorem dX11_greatestDivisor_29 : decode cX11_greatestDivisor 29 = .ok (.iinc 4 1, 3) := by decide +kernel
theorem dX11_greatestDivisor_32 : decode cX11_greatestDivisor 32 = .ok (.goto (-25), 3) := by decide +kernel
theorem dX11_greatestDivisor_35 : decode cX11_greatestDivisor 35 = .ok (.iload_n 2, 1) := by decide +kernel
theorem dX11_greatestDivisor_36 : decode cX11_greatestDivisor 36 = .ok (.ireturn, 1) := by decide +kernel
def J_X11_greatestDivisor_35 (v2 : Int32) (D : aD) : Option (Int32 × aD) :=
  some (v2, D)
def B_X11_greatestDivisor_7 (v2 : Int32) (v3 : Int32) (v4 : Int32) (D : aD) : Option ((Int32 × Int32 × Int32 × aD) ⊕ ((Int32 × aD))) :=
  if 9999 ≤ v4 then (some (.inr (v2, D))) else (if v3 ≤ 0 then (some (.inr (v2, D))) else (aGd (aNz v3) (aLet (v2 - v2 / v3 * v3) (fun v5_2 => aLet (v4 + 1) (fun v4_3 => some (.inl (v3, v5_2, v4_3, D)))))))
def J_X11_greatestDivisor_7 (v2 : Int32) (v3 : Int32) (v4 : Int32) (D : aD) : Option (Int32 × aD) :=
  (aLp (fun s => B_X11_greatestDivisor_7 s.1 s.2.1 s.2.2.1 s.2.2.2) (v2, v3, v4, D)).bind (fun r => J_X11_greatestDivisor_35 (r.1) r.2)
def f_X11_greatestDivisor (v0 : Int32) (v1 : Int32) (D : aD) : Option (Int32 × aD) :=
  J_X11_greatestDivisor_7 v0 v1 0 D
set_option maxRecDepth 100000 in
set_option maxHeartbeats 800000 in
theorem c_X11_greatestDivisor {G : aG} (hG : gOK G) {shp : List aSh} (hS : aShp shp) {fr : Option Nat} {v0 : Int32} {v1 : Int32} {D : aD} {K : Int32 → aD → Prop} (h : Ok2 (f_X11_greatestDivisor v0 v1 D) K) : AC G (aRm 1 0 0) M_X11_greatestDivisor [.int v0, .int v1] fr shp D (aQi shp K) := by
  replace h := Ok2.ok h
  unfold f_X11_greatestDivisor at h
  refine AC.of (al := [some (.int v0), some (.int v1), none, none, none, none]) (r := 4) (by decide) (Nat.le_of_ble_eq_true rfl) rfl ?_
  have hJ_35 : ∀ (v2 : Int32) (D : aD), Ok (J_X11_greatestDivisor_35 v2 D) (fun r => K r.1 r.2) → AW G (aRm 1 0 0) M_X11_greatestDivisor fr 0 0 35 [none, none, some (.int v2), none, none, none] [] shp D (aQi shp K) := by
    intro v2 D h
    unfold J_X11_greatestDivisor_35 at h
    refine aw_iload_n (n := 36) (i := 2) dX11_greatestDivisor_35 rfl rfl rfl ?_
    exact aw_iret rfl (by decide) (by decide) dX11_greatestDivisor_36 ⟨_, rfl, rfl, (Ok.dn h :)⟩
  have hJ_7 : ∀ (v2 : Int32) (v3 : Int32) (v4 : Int32) (D : aD), Ok (J_X11_greatestDivisor_7 v2 v3 v4 D) (fun r => K r.1 r.2) → AW G (aRm 1 0 0) M_X11_greatestDivisor fr 0 0 7 [none, none, some (.int v2), some (.int v3), some (.int v4), none] [] shp D (aQi shp K) := by
    intro v2 v3 v4 D h
    unfold J_X11_greatestDivisor_7 at h
    refine Ok.lp (P := fun s => AW G (aRm 1 0 0) M_X11_greatestDivisor fr 0 0 7 [none, none, some (.int (s.1)), some (.int (s.2.1)), some (.int (s.2.2.1)), none] [] shp s.2.2.2 (aQi shp K)) (fun s Kb7 hL7 hR7 h => ?_) (v2, v3, v4, D) (Ok.bind h)
    obtain ⟨v2, v3, v4, D⟩ := s
    replace h : Ok (B_X11_greatestDivisor_7 v2 v3 v4 D) Kb7 := h
    unfold B_X11_greatestDivisor_7 at h
    refine aw_iload (n := 9) (i := 4) dX11_greatestDivisor_7 rfl rfl ?_
    refine aw_sipush (n := 12) (v := 9999) dX11_greatestDivisor_9 rfl (by decide) ?_
    refine aw_icmp_ge (n := 15) (tgt := 35) dX11_greatestDivisor_12 rfl (by decide) (fun c => ?_) (fun c => ?_)
    · replace h := Ok.ift h c
      exact aw_le' (hJ_35 v2 D (hR7 (v2, D) (Ok.dn h :))) ⟨rfl, trivial⟩
    · replace h := Ok.iff h c
      refine aw_iload_n (n := 16) (i := 3) dX11_greatestDivisor_15 rfl rfl rfl ?_
      refine aw_if_le (n := 19) (tgt := 35) dX11_greatestDivisor_16 rfl (by decide) (fun c => ?_) (fun c => ?_)
      · replace h := Ok.ift h c
        exact aw_le' (hJ_35 v2 D (hR7 (v2, D) (Ok.dn h :))) ⟨rfl, trivial⟩
      · replace h := Ok.iff h c
        refine aw_iload_n (n := 20) (i := 2) dX11_greatestDivisor_19 rfl rfl rfl ?_
        refine aw_iload_n (n := 21) (i := 3) dX11_greatestDivisor_20 rfl rfl rfl ?_
        obtain ⟨g_1, h⟩ := Ok.gd h
        refine aw_irem (n := 22) dX11_greatestDivisor_21 rfl (aNz_ne g_1) ?_
        obtain ⟨v5_2, e_v5_2, h⟩ := Ok.let_ h
        refine aw_istore (n := 24) (i := 5) (al' := [none, none, some (.int v2), some (.int v3), some (.int v4), some (.int v5_2)]) dX11_greatestDivisor_22 rfl e_v5_2 (by decide) rfl ?_
        refine aw_iload_n (n := 25) (i := 3) dX11_greatestDivisor_24 rfl rfl rfl ?_
        refine aw_istore_n (n := 26) (i := 2) (al' := [none, none, some (.int v3), some (.int v3), some (.int v4), some (.int v5_2)]) dX11_greatestDivisor_25 rfl rfl rfl (by decide) rfl ?_
        refine aw_iload (n := 28) (i := 5) dX11_greatestDivisor_26 rfl rfl ?_
        refine aw_istore_n (n := 29) (i := 3) (al' := [none, none, some (.int v3), some (.int v5_2), some (.int v4), some (.int v5_2)]) dX11_greatestDivisor_28 rfl rfl rfl (by decide) rfl ?_
        obtain ⟨v4_3, e_v4_3, h⟩ := Ok.let_ h
        refine aw_iinc (n := 32) (al' := [none, none, some (.int v3), some (.int v5_2), some (.int v4_3), some (.int v5_2)]) dX11_greatestDivisor_29 rfl rfl e_v4_3 (by decide) rfl ?_
        refine aw_goto (tgt := 7) dX11_greatestDivisor_32 (by decide) ?_
        exact aw_le' (hL7 (v3, v5_2, v4_3, D) (Ok.dn h :)) ⟨rfl, ⟨rfl, ⟨rfl, trivial⟩⟩⟩
  refine aw_iload_n (n := 1) (i := 0) dX11_greatestDivisor_0 rfl rfl rfl ?_
  refine aw_istore_n (n := 2) (i := 2) (al' := [some (.int v0), some (.int v1), some (.int v0), none, none, none]) dX11_greatestDivisor_1 rfl rfl rfl (by decide) rfl ?_
  refine aw_iload_n (n := 3) (i := 1) dX11_greatestDivisor_2 rfl rfl rfl ?_
  refine aw_istore_n (n := 4) (i := 3) (al' := [some (.int v0), some (.int v1), some (.int v0), some (.int v1), none, none]) dX11_greatestDivisor_3 rfl rfl rfl (by decide) rfl ?_
  refine aw_iconst (n := 5) (v := 0) dX11_greatestDivisor_4 rfl (by decide) ?_
  refine aw_istore (n := 7) (i := 4) (al' := [some (.int v0), some (.int v1), some (.int v0), some (.int v1), some (.int 0), none]) dX11_greatestDivisor_5 rfl rfl (by decide) rfl ?_
  exact aw_le' (hJ_7 v0 v1 0 D h) ⟨rfl, ⟨rfl, ⟨rfl, trivial⟩⟩⟩
theorem dX11_odds_0 : decode cX11_odds 0 = .ok (.aload_n 0, 1) := by decide +kernel
theorem dX11_odds_1 : decode cX11_odds 1 = .ok (.iload_n 1, 1) := by decide +kernel
theorem dX11_odds_2 : decode cX11_odds 2 = .ok (.invokevirtual 223, 3) := by decide +kernel
theorem dX11_odds_5 : decode cX11_odds 5 = .ok (.iload_n 2, 1) := by decide +kernel
theorem dX11_odds_6 : decode cX11_odds 6 = .ok (.iconst 2, 1) := by decide +kernel
theorem dX11_odds_7 : decode cX11_odds 7 = .ok (.invokestatic 173, 3) := by decide +kernel
theorem dX11_odds_10 : decode cX11_odds 10 = .ok (.invokestatic 121, 3) := by decide +kernel
theorem dX11_odds_13 : decode cX11_odds 13 = .ok (.aload_n 0, 1) := by decide +kernel
theorem dX11_odds_14 : decode cX11_odds 14 = .ok (.getfield 60, 3) := by decide +kernel
theorem dX11_odds_17 : decode cX11_odds 17 = .ok (.invokevirtual 254, 3) := by decide +kernel
theorem dX11_odds_20 : decode cX11_odds 20 = .ok (.aload_n 0, 1) := by decide +kernel
theorem dX11_odds_21 : decode cX11_odds 21 = .ok (.getfield 60, 3) := by decide +kernel
theorem dX11_odds_24 : decode cX11_odds 24 = .ok (.iload_n 1, 1) := by decide +kernel
theorem dX11_odds_25 : decode cX11_odds 25 = .ok (.iconst (-1), 1) := by decide +kernel
theorem dX11_odds_26 : decode cX11_odds 26 = .ok (.invokevirtual 257, 3) := by decide +kernel
theorem dX11_odds_29 : decode cX11_odds 29 = .ok (.istore_n 3, 1) := by decide +kernel
theorem dX11_odds_30 : decode cX11_odds 30 = .ok (.aload_n 0, 1) := by decide +kernel
theorem dX11_odds_31 : decode cX11_odds 31 = .ok (.getfield 20, 3) := by decide +kernel
theorem dX11_odds_34 : decode cX11_odds 34 = .ok (.invokevirtual 260, 3) := by decide +kernel
theorem dX11_odds_37 : decode cX11_odds 37 = .ok (.istore 4, 2) := by decide +kernel
theorem dX11_odds_39 : decode cX11_odds 39 = .ok (.iload_n 3, 1) := by decide +kernel
theorem dX11_odds_40 : decode cX11_odds 40 = .ok (.iload 4, 2) := by decide +kernel
theorem dX11_odds_42 : decode cX11_odds 42 = .ok (.invokestatic 263, 3) := by decide +kernel
theorem dX11_odds_45 : decode cX11_odds 45 = .ok (.istore 5, 2) := by decide +kernel
theorem dX11_odds_47 : decode cX11_odds 47 = .ok (.iload 5, 2) := by decide +kernel
theorem dX11_odds_49 : decode cX11_odds 49 = .ok (.ifCond .ne 13, 3) := by decide +kernel
theorem dX11_odds_52 : decode cX11_odds 52 = .ok (.iload_n 2, 1) := by decide +kernel
theorem dX11_odds_53 : decode cX11_odds 53 = .ok (.ifCond .ne 7, 3) := by decide +kernel
theorem dX11_odds_56 : decode cX11_odds 56 = .ok (.iconst 0, 1) := by decide +kernel
theorem dX11_odds_57 : decode cX11_odds 57 = .ok (.goto 4, 3) := by decide +kernel
theorem dX11_odds_60 : decode cX11_odds 60 = .ok (.iconst 1, 1) := by decide +kernel
theorem dX11_odds_61 : decode cX11_odds 61 = .ok (.ireturn, 1) := by decide +kernel
theorem dX11_odds_62 : decode cX11_odds 62 = .ok (.iload_n 2, 1) := by decide +kernel
theorem dX11_odds_63 : decode cX11_odds 63 = .ok (.ifCond .ne 10, 3) := by decide +kernel
theorem dX11_odds_66 : decode cX11_odds 66 = .ok (.iload_n 3, 1) := by decide +kernel
theorem dX11_odds_67 : decode cX11_odds 67 = .ok (.iload 5, 2) := by decide +kernel
theorem dX11_odds_69 : decode cX11_odds 69 = .ok (.idiv, 1) := by decide +kernel
theorem dX11_odds_70 : decode cX11_odds 70 = .ok (.goto 8, 3) := by decide +kernel
theorem dX11_odds_73 : decode cX11_odds 73 = .ok (.iload 4, 2) := by decide +kernel
theorem dX11_odds_75 : decode cX11_odds 75 = .ok (.iload 5, 2) := by decide +kernel
theorem dX11_odds_77 : decode cX11_odds 77 = .ok (.idiv, 1) := by decide +kernel
theorem dX11_odds_78 : decode cX11_odds 78 = .ok (.ireturn, 1) := by decide +kernel
def f_X11_odds (v1 : Int32) (v2 : Int32) (D : aD) : Option ((String ⊕ Int32) × aD) :=
  aTry (f_X11_needGarden v1 D) (fun y_1 D_2 => aBi (f_X11_isBelow v2 2 D_2) (fun y_3 D_4 => aTry (f_X11_need y_3 D_4) (fun y_5 D_6 => (f_X1_prepareAll D_6).bind (fun D_7 => aBi (f_X1_weightsWon v1 (-1) D_7) (fun y_8 D_9 => aBi (f_X6_allWeights D_9) (fun y_10 D_11 => aBi (f_X11_greatestDivisor y_8 y_10 D_11) (fun y_12 D_13 => if y_12 ≠ 0 then (if v2 ≠ 0 then (aGd (aNz y_12) (some (.inr (y_10 / y_12), D_13))) else (aGd (aNz y_12) (some (.inr (y_8 / y_12), D_13)))) else (if v2 ≠ 0 then (some (.inr 1, D_13)) else (some (.inr 0, D_13))))))))))
set_option maxRecDepth 100000 in
set_option maxHeartbeats 800000 in
theorem c_X11_odds {G : aG} (hG : gOK G) {shp : List aSh} (hS : aShp shp) {fr : Option Nat} {v1 : Int32} {v2 : Int32} {D : aD} {K : (String ⊕ Int32) → aD → Prop} (h : Ok2 (f_X11_odds v1 v2 D) K) : AC G (aRm 8 2 12) M_X11_odds [.ref 0, .int v1, .int v2] fr shp D (aQxi shp K) := by
  replace h := Ok2.ok h
  unfold f_X11_odds at h
  refine AC.of (al := [some (.ref 0), some (.int v1), some (.int v2), none, none, none]) (r := 3) (by decide) (Nat.le_of_ble_eq_true rfl) rfl ?_
  refine aw_aload_n (n := 1) (i := 0) dX11_odds_0 rfl rfl rfl ?_
  refine aw_iload_n (n := 2) (i := 1) dX11_odds_1 rfl rfl rfl ?_
  refine aw_cVxv (M := M_X11_odds) (n := 5) (As := [.int v1]) (rest := []) (kn := 1) (kn2 := 6) hG.1 lk_RX11_223 rfl rfl (sF_0 hS) (c_X11_needGarden hG hS (h := Ok.try_ h)) (by decide) (Nat.le_of_ble_eq_true rfl) rfl rfl (by decide) (by decide) rfl dX11_odds_2 rfl (fun E D hx => ⟨rfl, Or.inr ⟨E, rfl, hx⟩⟩) (fun y_1 D_2 h => ?_)
  refine aw_iload_n (n := 6) (i := 2) dX11_odds_5 rfl rfl rfl ?_
  refine aw_iconst (n := 7) (v := 2) dX11_odds_6 rfl (by decide) ?_
  refine aw_cSi (M := M_X11_odds) (n := 10) (As := [.int v2, .int 2]) (rest := []) lk_RX11_173 rfl rfl (c_X11_isBelow hG hS (h := Ok.bi h)) (by decide) (Nat.le_of_ble_eq_true rfl) (by decide) (by decide) dX11_odds_7 rfl (fun y_3 D_4 h => ?_)
  refine aw_cSxv (M := M_X11_odds) (n := 13) (As := [.int y_3]) (rest := []) (kn := 2) (kn2 := 12) lk_RX11_121 rfl rfl (c_X11_need hG hS (h := Ok.try_ h)) (by decide) (Nat.le_of_ble_eq_true rfl) rfl rfl (by decide) (by decide) rfl dX11_odds_10 rfl (fun E D hx => ⟨rfl, Or.inr ⟨E, rfl, hx⟩⟩) (fun y_5 D_6 h => ?_)
  refine aw_aload_n (n := 14) (i := 0) dX11_odds_13 rfl rfl rfl ?_
  refine aw_getR (n := 17) (j := 10) (r := 60) hG.1 fl_RX11_60 (sF_0 hS) rfl dX11_odds_14 rfl ?_
  refine aw_cVv (M := M_X11_odds) (n := 20) (As := []) (rest := []) hG.1 lk_RX11_254 rfl rfl (sF_60 hS) (c_X1_prepareAll hG hS (h := Ok.bind h)) (by decide) (Nat.le_of_ble_eq_true rfl) (by decide) (by decide) dX11_odds_17 rfl (fun D_7 h => ?_)
  refine aw_aload_n (n := 21) (i := 0) dX11_odds_20 rfl rfl rfl ?_
  refine aw_getR (n := 24) (j := 10) (r := 60) hG.1 fl_RX11_60 (sF_0 hS) rfl dX11_odds_21 rfl ?_
  refine aw_iload_n (n := 25) (i := 1) dX11_odds_24 rfl rfl rfl ?_
  refine aw_iconst (n := 26) (v := (-1)) dX11_odds_25 rfl (by decide) ?_
  refine aw_cVi (M := M_X11_odds) (n := 29) (As := [.int v1, .int (-1)]) (rest := []) hG.1 lk_RX11_257 rfl rfl (sF_60 hS) (c_X1_weightsWon hG hS (h := Ok.bi h)) (by decide) (Nat.le_of_ble_eq_true rfl) (by decide) (by decide) dX11_odds_26 rfl (fun y_8 D_9 h => ?_)
  refine aw_istore_n (n := 30) (i := 3) (al' := [some (.ref 0), some (.int v1), some (.int v2), some (.int y_8), none, none]) dX11_odds_29 rfl rfl rfl (by decide) rfl ?_
  refine aw_aload_n (n := 31) (i := 0) dX11_odds_30 rfl rfl rfl ?_
  refine aw_getR (n := 34) (j := 3) (r := 2) hG.1 fl_RX11_20 (sF_0 hS) rfl dX11_odds_31 rfl ?_
  refine aw_cVi (M := M_X11_odds) (n := 37) (As := []) (rest := []) hG.1 lk_RX11_260 rfl rfl (sF_2 hS) (c_X6_allWeights hG hS (h := Ok.bi h)) (by decide) (Nat.le_of_ble_eq_true rfl) (by decide) (by decide) dX11_odds_34 rfl (fun y_10 D_11 h => ?_)
  refine aw_istore (n := 39) (i := 4) (al' := [some (.ref 0), some (.int v1), some (.int v2), some (.int y_8), some (.int y_10), none]) dX11_odds_37 rfl rfl (by decide) rfl ?_
  refine aw_iload_n (n := 40) (i := 3) dX11_odds_39 rfl rfl rfl ?_
  refine aw_iload (n := 42) (i := 4) dX11_odds_40 rfl rfl ?_
  refine aw_cSi (M := M_X11_odds) (n := 45) (As := [.int y_8, .int y_10]) (rest := []) lk_RX11_263 rfl rfl (c_X11_greatestDivisor hG hS (h := Ok.bi h)) (by decide) (Nat.le_of_ble_eq_true rfl) (by decide) (by decide) dX11_odds_42 rfl (fun y_12 D_13 h => ?_)
  refine aw_istore (n := 47) (i := 5) (al' := [some (.ref 0), some (.int v1), some (.int v2), some (.int y_8), some (.int y_10), some (.int y_12)]) dX11_odds_45 rfl rfl (by decide) rfl ?_
  refine aw_iload (n := 49) (i := 5) dX11_odds_47 rfl rfl ?_
  refine aw_if_ne (n := 52) (tgt := 62) dX11_odds_49 rfl (by decide) (fun c => ?_) (fun c => ?_)
  · replace h := Ok.ift h c
    refine aw_iload_n (n := 63) (i := 2) dX11_odds_62 rfl rfl rfl ?_
    refine aw_if_ne (n := 66) (tgt := 73) dX11_odds_63 rfl (by decide) (fun c => ?_) (fun c => ?_)
    · replace h := Ok.ift h c
      refine aw_iload (n := 75) (i := 4) dX11_odds_73 rfl rfl ?_
      refine aw_iload (n := 77) (i := 5) dX11_odds_75 rfl rfl ?_
      obtain ⟨g_14, h⟩ := Ok.gd h
      refine aw_idiv (n := 78) dX11_odds_77 rfl (aNz_ne g_14) ?_
      exact aw_iret rfl (by decide) (by decide) dX11_odds_78 ⟨rfl, Or.inl ⟨_, rfl, (Ok.dn h :)⟩⟩
    · replace h := Ok.iffn h c
      refine aw_iload_n (n := 67) (i := 3) dX11_odds_66 rfl rfl rfl ?_
      refine aw_iload (n := 69) (i := 5) dX11_odds_67 rfl rfl ?_
      obtain ⟨g_15, h⟩ := Ok.gd h
      refine aw_idiv (n := 70) dX11_odds_69 rfl (aNz_ne g_15) ?_
      refine aw_goto (tgt := 78) dX11_odds_70 (by decide) ?_
      exact aw_iret rfl (by decide) (by decide) dX11_odds_78 ⟨rfl, Or.inl ⟨_, rfl, (Ok.dn h :)⟩⟩
  · replace h := Ok.iffn h c
    refine aw_iload_n (n := 53) (i := 2) dX11_odds_52 rfl rfl rfl ?_
    refine aw_if_ne (n := 56) (tgt := 60) dX11_odds_53 rfl (by decide) (fun c => ?_) (fun c => ?_)
    · replace h := Ok.ift h c
      refine aw_iconst (n := 61) (v := 1) dX11_odds_60 rfl (by decide) ?_
      exact aw_iret rfl (by decide) (by decide) dX11_odds_61 ⟨rfl, Or.inl ⟨_, rfl, (Ok.dn h :)⟩⟩
    · replace h := Ok.iffn h c
      refine aw_iconst (n := 57) (v := 0) dX11_odds_56 rfl (by decide) ?_
      refine aw_goto (tgt := 61) dX11_odds_57 (by decide) ?_
      exact aw_iret rfl (by decide) (by decide) dX11_odds_61 ⟨rfl, Or.inl ⟨_, rfl, (Ok.dn h :)⟩⟩
theorem dX11_best_0 : decode cX11_best 0 = .ok (.aload_n 0, 1) := by decide +kernel
theorem dX11_best_1 : decode cX11_best 1 = .ok (.iload_n 1, 1) := by decide +kernel
theorem dX11_best_2 : decode cX11_best 2 = .ok (.invokevirtual 223, 3) := by decide +kernel
theorem dX11_best_5 : decode cX11_best 5 = .ok (.iload_n 2, 1) := by decide +kernel
theorem dX11_best_6 : decode cX11_best 6 = .ok (.iconst 2, 1) := by decide +kernel
theorem dX11_best_7 : decode cX11_best 7 = .ok (.invokestatic 173, 3) := by decide +kernel
theorem dX11_best_10 : decode cX11_best 10 = .ok (.invokestatic 121, 3) := by decide +kernel
theorem dX11_best_13 : decode cX11_best 13 = .ok (.aload_n 0, 1) := by decide +kernel
theorem dX11_best_14 : decode cX11_best 14 = .ok (.getfield 20, 3) := by decide +kernel
theorem dX11_best_17 : decode cX11_best 17 = .ok (.iload_n 1, 1) := by decide +kernel
theorem dX11_best_18 : decode cX11_best 18 = .ok (.invokevirtual 266, 3) := by decide +kernel
theorem dX11_best_21 : decode cX11_best 21 = .ok (.bipush 6, 2) := by decide +kernel
theorem dX11_best_23 : decode cX11_best 23 = .ok (.if_icmp .le 6, 3) := by decide +kernel
theorem dX11_best_26 : decode cX11_best 26 = .ok (.bipush (-2), 2) := by decide +kernel
theorem dX11_best_28 : decode cX11_best 28 = .ok (.ireturn, 1) := by decide +kernel
theorem dX11_best_29 : decode cX11_best 29 = .ok (.aload_n 0, 1) := by decide +kernel
theorem dX11_best_30 : decode cX11_best 30 = .ok (.getfield 60, 3) := by decide +kernel
theorem dX11_best_33 : decode cX11_best 33 = .ok (.invokevirtual 254, 3) := by decide +kernel
theorem dX11_best_36 : decode cX11_best 36 = .ok (.aload_n 0, 1) := by decide +kernel
theorem dX11_best_37 : decode cX11_best 37 = .ok (.getfield 69, 3) := by decide +kernel
theorem dX11_best_40 : decode cX11_best 40 = .ok (.iload_n 1, 1) := by decide +kernel
theorem dX11_best_41 : decode cX11_best 41 = .ok (.iconst (-1), 1) := by decide +kernel
theorem dX11_best_42 : decode cX11_best 42 = .ok (.invokevirtual 269, 3) := by decide +kernel
theorem dX11_best_45 : decode cX11_best 45 = .ok (.istore_n 3, 1) := by decide +kernel
theorem dX11_best_46 : decode cX11_best 46 = .ok (.iload_n 2, 1) := by decide +kernel
theorem dX11_best_47 : decode cX11_best 47 = .ok (.ifCond .ne 7, 3) := by decide +kernel
theorem dX11_best_50 : decode cX11_best 50 = .ok (.iload_n 3, 1) := by decide +kernel
theorem dX11_best_51 : decode cX11_best 51 = .ok (.goto 10, 3) := by decide +kernel
theorem dX11_best_54 : decode cX11_best 54 = .ok (.aload_n 0, 1) := by decide +kernel
theorem dX11_best_55 : decode cX11_best 55 = .ok (.getfield 69, 3) := by decide +kernel
theorem dX11_best_58 : decode cX11_best 58 = .ok (.invokevirtual 272, 3) := by decide +kernel
theorem dX11_best_61 : decode cX11_best 61 = .ok (.ireturn, 1) := by decide +kernel
def f_X11_best (v1 : Int32) (v2 : Int32) (D : aD) : Option ((String ⊕ Int32) × aD) :=
  aTry (f_X11_needGarden v1 D) (fun y_1 D_2 => aBi (f_X11_isBelow v2 2 D_2) (fun y_3 D_4 => aTry (f_X11_need y_3 D_4) (fun y_5 D_6 => aBi (f_X6_plantsOf v1 D_6) (fun y_7 D_8 => if y_7 ≤ 6 then ((f_X1_prepareAll D_8).bind (fun D_9 => aBi (f_X3_tune v1 (-1) D_9) (fun y_10 D_11 => if v2 ≠ 0 then (aBi (f_X3_tunedRow D_11) (fun y_12 D_13 => some (.inr y_12, D_13))) else (some (.inr y_10, D_11))))) else (some (.inr (-2), D_8))))))
set_option maxRecDepth 100000 in
set_option maxHeartbeats 800000 in
theorem c_X11_best {G : aG} (hG : gOK G) {shp : List aSh} (hS : aShp shp) {fr : Option Nat} {v1 : Int32} {v2 : Int32} {D : aD} {K : (String ⊕ Int32) → aD → Prop} (h : Ok2 (f_X11_best v1 v2 D) K) : AC G (aRm 8 2 12) M_X11_best [.ref 0, .int v1, .int v2] fr shp D (aQxi shp K) := by
  replace h := Ok2.ok h
  unfold f_X11_best at h
  refine AC.of (al := [some (.ref 0), some (.int v1), some (.int v2), none]) (r := 1) (by decide) (Nat.le_of_ble_eq_true rfl) rfl ?_
  refine aw_aload_n (n := 1) (i := 0) dX11_best_0 rfl rfl rfl ?_
  refine aw_iload_n (n := 2) (i := 1) dX11_best_1 rfl rfl rfl ?_
  refine aw_cVxv (M := M_X11_best) (n := 5) (As := [.int v1]) (rest := []) (kn := 1) (kn2 := 6) hG.1 lk_RX11_223 rfl rfl (sF_0 hS) (c_X11_needGarden hG hS (h := Ok.try_ h)) (by decide) (Nat.le_of_ble_eq_true rfl) rfl rfl (by decide) (by decide) rfl dX11_best_2 rfl (fun E D hx => ⟨rfl, Or.inr ⟨E, rfl, hx⟩⟩) (fun y_1 D_2 h => ?_)
  refine aw_iload_n (n := 6) (i := 2) dX11_best_5 rfl rfl rfl ?_
  refine aw_iconst (n := 7) (v := 2) dX11_best_6 rfl (by decide) ?_
  refine aw_cSi (M := M_X11_best) (n := 10) (As := [.int v2, .int 2]) (rest := []) lk_RX11_173 rfl rfl (c_X11_isBelow hG hS (h := Ok.bi h)) (by decide) (Nat.le_of_ble_eq_true rfl) (by decide) (by decide) dX11_best_7 rfl (fun y_3 D_4 h => ?_)
  refine aw_cSxv (M := M_X11_best) (n := 13) (As := [.int y_3]) (rest := []) (kn := 2) (kn2 := 12) lk_RX11_121 rfl rfl (c_X11_need hG hS (h := Ok.try_ h)) (by decide) (Nat.le_of_ble_eq_true rfl) rfl rfl (by decide) (by decide) rfl dX11_best_10 rfl (fun E D hx => ⟨rfl, Or.inr ⟨E, rfl, hx⟩⟩) (fun y_5 D_6 h => ?_)
  refine aw_aload_n (n := 14) (i := 0) dX11_best_13 rfl rfl rfl ?_
  refine aw_getR (n := 17) (j := 3) (r := 2) hG.1 fl_RX11_20 (sF_0 hS) rfl dX11_best_14 rfl ?_
  refine aw_iload_n (n := 18) (i := 1) dX11_best_17 rfl rfl rfl ?_
  refine aw_cVi (M := M_X11_best) (n := 21) (As := [.int v1]) (rest := []) hG.1 lk_RX11_266 rfl rfl (sF_2 hS) (c_X6_plantsOf hG hS (h := Ok.bi h)) (by decide) (Nat.le_of_ble_eq_true rfl) (by decide) (by decide) dX11_best_18 rfl (fun y_7 D_8 h => ?_)
  refine aw_bipush (n := 23) (v := 6) dX11_best_21 rfl (by decide) ?_
  refine aw_icmp_le (n := 26) (tgt := 29) dX11_best_23 rfl (by decide) (fun c => ?_) (fun c => ?_)
  · replace h := Ok.ift h c
    refine aw_aload_n (n := 30) (i := 0) dX11_best_29 rfl rfl rfl ?_
    refine aw_getR (n := 33) (j := 10) (r := 60) hG.1 fl_RX11_60 (sF_0 hS) rfl dX11_best_30 rfl ?_
    refine aw_cVv (M := M_X11_best) (n := 36) (As := []) (rest := []) hG.1 lk_RX11_254 rfl rfl (sF_60 hS) (c_X1_prepareAll hG hS (h := Ok.bind h)) (by decide) (Nat.le_of_ble_eq_true rfl) (by decide) (by decide) dX11_best_33 rfl (fun D_9 h => ?_)
    refine aw_aload_n (n := 37) (i := 0) dX11_best_36 rfl rfl rfl ?_
    refine aw_getR (n := 40) (j := 11) (r := 68) hG.1 fl_RX11_69 (sF_0 hS) rfl dX11_best_37 rfl ?_
    refine aw_iload_n (n := 41) (i := 1) dX11_best_40 rfl rfl rfl ?_
    refine aw_iconst (n := 42) (v := (-1)) dX11_best_41 rfl (by decide) ?_
    refine aw_cVi (M := M_X11_best) (n := 45) (As := [.int v1, .int (-1)]) (rest := []) hG.1 lk_RX11_269 rfl rfl (sF_68 hS) (c_X3_tune hG hS (h := Ok.bi h)) (by decide) (Nat.le_of_ble_eq_true rfl) (by decide) (by decide) dX11_best_42 rfl (fun y_10 D_11 h => ?_)
    refine aw_istore_n (n := 46) (i := 3) (al' := [some (.ref 0), some (.int v1), some (.int v2), some (.int y_10)]) dX11_best_45 rfl rfl rfl (by decide) rfl ?_
    refine aw_iload_n (n := 47) (i := 2) dX11_best_46 rfl rfl rfl ?_
    refine aw_if_ne (n := 50) (tgt := 54) dX11_best_47 rfl (by decide) (fun c => ?_) (fun c => ?_)
    · replace h := Ok.ift h c
      refine aw_aload_n (n := 55) (i := 0) dX11_best_54 rfl rfl rfl ?_
      refine aw_getR (n := 58) (j := 11) (r := 68) hG.1 fl_RX11_69 (sF_0 hS) rfl dX11_best_55 rfl ?_
      refine aw_cVi (M := M_X11_best) (n := 61) (As := []) (rest := []) hG.1 lk_RX11_272 rfl rfl (sF_68 hS) (c_X3_tunedRow hG hS (h := Ok.bi h)) (by decide) (Nat.le_of_ble_eq_true rfl) (by decide) (by decide) dX11_best_58 rfl (fun y_12 D_13 h => ?_)
      exact aw_iret rfl (by decide) (by decide) dX11_best_61 ⟨rfl, Or.inl ⟨_, rfl, (Ok.dn h :)⟩⟩
    · replace h := Ok.iffn h c
      refine aw_iload_n (n := 51) (i := 3) dX11_best_50 rfl rfl rfl ?_
      refine aw_goto (tgt := 61) dX11_best_51 (by decide) ?_
      exact aw_iret rfl (by decide) (by decide) dX11_best_61 ⟨rfl, Or.inl ⟨_, rfl, (Ok.dn h :)⟩⟩
  · replace h := Ok.iff h c
    refine aw_bipush (n := 28) (v := (-2)) dX11_best_26 rfl (by decide) ?_
    exact aw_iret rfl (by decide) (by decide) dX11_best_28 ⟨rfl, Or.inl ⟨_, rfl, (Ok.dn h :)⟩⟩
theorem dX11_rest_0 : decode cX11_rest 0 = .ok (.iconst 0, 1) := by decide +kernel
theorem dX11_rest_1 : decode cX11_rest 1 = .ok (.istore_n 1, 1) := by decide +kernel
theorem dX11_rest_2 : decode cX11_rest 2 = .ok (.iload_n 1, 1) := by decide +kernel
theorem dX11_rest_3 : decode cX11_rest 3 = .ok (.aload_n 0, 1) := by decide +kernel
theorem dX11_rest_4 : decode cX11_rest 4 = .ok (.getfield 20, 3) := by decide +kernel
theorem dX11_rest_7 : decode cX11_rest 7 = .ok (.getfield 143, 3) := by decide +kernel
theorem dX11_rest_10 : decode cX11_rest 10 = .ok (.if_icmp .ge 25, 3) := by decide +kernel
theorem dX11_rest_13 : decode cX11_rest 13 = .ok (.aload_n 0, 1) := by decide +kernel
theorem dX11_rest_14 : decode cX11_rest 14 = .ok (.getfield 20, 3) := by decide +kernel
theorem dX11_rest_17 : decode cX11_rest 17 = .ok (.iload_n 1, 1) := by decide +kernel
theorem dX11_rest_18 : decode cX11_rest 18 = .ok (.invokevirtual 266, 3) := by decide +kernel
theorem dX11_rest_21 : decode cX11_rest 21 = .ok (.bipush 6, 2) := by decide +kernel
theorem dX11_rest_23 : decode cX11_rest 23 = .ok (.if_icmp .le 6, 3) := by decide +kernel
theorem dX11_rest_26 : decode cX11_rest 26 = .ok (.bipush (-2), 2) := by decide +kernel
theorem dX11_rest_28 : decode cX11_rest 28 = .ok (.ireturn, 1) := by decide +kernel
theorem dX11_rest_29 : decode cX11_rest 29 = .ok (.iinc 1 1, 3) := by decide +kernel
theorem dX11_rest_32 : decode cX11_rest 32 = .ok (.goto (-30), 3) := by decide +kernel
theorem dX11_rest_35 : decode cX11_rest 35 = .ok (.aload_n 0, 1) := by decide +kernel
theorem dX11_rest_36 : decode cX11_rest 36 = .ok (.getfield 60, 3) := by decide +kernel
theorem dX11_rest_39 : decode cX11_rest 39 = .ok (.invokevirtual 254, 3) := by decide +kernel
theorem dX11_rest_42 : decode cX11_rest 42 = .ok (.aload_n 0, 1) := by decide +kernel
theorem dX11_rest_43 : decode cX11_rest 43 = .ok (.getfield 69, 3) := by decide +kernel
theorem dX11_rest_46 : decode cX11_rest 46 = .ok (.invokevirtual 275, 3) := by decide +kernel
theorem dX11_rest_49 : decode cX11_rest 49 = .ok (.ireturn, 1) := by decide +kernel
def J_X11_rest_26 (D : aD) : Option (Int32 × aD) :=
  some ((-2), D)
def J_X11_rest_35 (D : aD) : Option (Int32 × aD) :=
  (f_X1_prepareAll D).bind (fun D_1 => aBi (f_X3_roundsToRest D_1) (fun y_2 D_3 => some (y_2, D_3)))
def B_X11_rest_2 (v1 : Int32) (D : aD) : Option ((Int32 × aD) ⊕ ((aD) ⊕ (aD))) :=
  if gI D 2 3 ≤ v1 then (some (.inr (.inr (D)))) else (aBi (f_X6_plantsOf v1 D) (fun y_4 D_5 => if y_4 ≤ 6 then (aLet (v1 + 1) (fun v1_6 => some (.inl (v1_6, D_5)))) else (some (.inr (.inl (D_5))))))
def J_X11_rest_2 (v1 : Int32) (D : aD) : Option (Int32 × aD) :=
  (aLp (fun s => B_X11_rest_2 s.1 s.2) (v1, D)).bind (Sum.elim (fun r => J_X11_rest_26 r) ((fun r => J_X11_rest_35 r)))
def f_X11_rest (D : aD) : Option (Int32 × aD) :=
  J_X11_rest_2 0 D
set_option maxRecDepth 100000 in
set_option maxHeartbeats 800000 in
theorem c_X11_rest {G : aG} (hG : gOK G) {shp : List aSh} (hS : aShp shp) {fr : Option Nat} {D : aD} {K : Int32 → aD → Prop} (h : Ok2 (f_X11_rest D) K) : AC G (aRm 8 0 0) M_X11_rest [.ref 0] fr shp D (aQi shp K) := by
  replace h := Ok2.ok h
  unfold f_X11_rest at h
  refine AC.of (al := [some (.ref 0), none]) (r := 1) (by decide) (Nat.le_of_ble_eq_true rfl) rfl ?_
  have hJ_26 : ∀ (D : aD), Ok (J_X11_rest_26 D) (fun r => K r.1 r.2) → AW G (aRm 8 0 0) M_X11_rest fr 0 0 26 [none, none] [] shp D (aQi shp K) := by
    intro D h
    unfold J_X11_rest_26 at h
    refine aw_bipush (n := 28) (v := (-2)) dX11_rest_26 rfl (by decide) ?_
    exact aw_iret rfl (by decide) (by decide) dX11_rest_28 ⟨_, rfl, rfl, (Ok.dn h :)⟩
  have hJ_35 : ∀ (D : aD), Ok (J_X11_rest_35 D) (fun r => K r.1 r.2) → AW G (aRm 8 0 0) M_X11_rest fr 0 0 35 [some (.ref 0), none] [] shp D (aQi shp K) := by
    intro D h
    unfold J_X11_rest_35 at h
    refine aw_aload_n (n := 36) (i := 0) dX11_rest_35 rfl rfl rfl ?_
    refine aw_getR (n := 39) (j := 10) (r := 60) hG.1 fl_RX11_60 (sF_0 hS) rfl dX11_rest_36 rfl ?_
    refine aw_cVv (M := M_X11_rest) (n := 42) (As := []) (rest := []) hG.1 lk_RX11_254 rfl rfl (sF_60 hS) (c_X1_prepareAll hG hS (h := Ok.bind h)) (by decide) (Nat.le_of_ble_eq_true rfl) (by decide) (by decide) dX11_rest_39 rfl (fun D_1 h => ?_)
    refine aw_aload_n (n := 43) (i := 0) dX11_rest_42 rfl rfl rfl ?_
    refine aw_getR (n := 46) (j := 11) (r := 68) hG.1 fl_RX11_69 (sF_0 hS) rfl dX11_rest_43 rfl ?_
    refine aw_cVi (M := M_X11_rest) (n := 49) (As := []) (rest := []) hG.1 lk_RX11_275 rfl rfl (sF_68 hS) (c_X3_roundsToRest hG hS (h := Ok.bi h)) (by decide) (Nat.le_of_ble_eq_true rfl) (by decide) (by decide) dX11_rest_46 rfl (fun y_2 D_3 h => ?_)
    exact aw_iret rfl (by decide) (by decide) dX11_rest_49 ⟨_, rfl, rfl, (Ok.dn h :)⟩
  have hJ_2 : ∀ (v1 : Int32) (D : aD), Ok (J_X11_rest_2 v1 D) (fun r => K r.1 r.2) → AW G (aRm 8 0 0) M_X11_rest fr 0 0 2 [some (.ref 0), some (.int v1)] [] shp D (aQi shp K) := by
    intro v1 D h
    unfold J_X11_rest_2 at h
    refine Ok.lp (P := fun s => AW G (aRm 8 0 0) M_X11_rest fr 0 0 2 [some (.ref 0), some (.int (s.1))] [] shp s.2 (aQi shp K)) (fun s Kb2 hL2 hR2 h => ?_) (v1, D) (Ok.bind h)
    obtain ⟨v1, D⟩ := s
    replace h : Ok (B_X11_rest_2 v1 D) Kb2 := h
    unfold B_X11_rest_2 at h
    refine aw_iload_n (n := 3) (i := 1) dX11_rest_2 rfl rfl rfl ?_
    refine aw_aload_n (n := 4) (i := 0) dX11_rest_3 rfl rfl rfl ?_
    refine aw_getR (n := 7) (j := 3) (r := 2) hG.1 fl_RX11_20 (sF_0 hS) rfl dX11_rest_4 rfl ?_
    refine aw_getI (n := 10) (j := 3) hG.1 fl_RX11_143 (sF_2 hS) rfl dX11_rest_7 rfl ?_
    refine aw_icmp_ge (n := 13) (tgt := 35) dX11_rest_10 rfl (by decide) (fun c => ?_) (fun c => ?_)
    · replace h := Ok.ift h c
      exact aw_le' (hJ_35 D (Ok.er (hR2 (.inr (D)) (Ok.dn h :)) :)) ⟨rfl, trivial⟩
    · replace h := Ok.iff h c
      refine aw_aload_n (n := 14) (i := 0) dX11_rest_13 rfl rfl rfl ?_
      refine aw_getR (n := 17) (j := 3) (r := 2) hG.1 fl_RX11_20 (sF_0 hS) rfl dX11_rest_14 rfl ?_
      refine aw_iload_n (n := 18) (i := 1) dX11_rest_17 rfl rfl rfl ?_
      refine aw_cVi (M := M_X11_rest) (n := 21) (As := [.int v1]) (rest := []) hG.1 lk_RX11_266 rfl rfl (sF_2 hS) (c_X6_plantsOf hG hS (h := Ok.bi h)) (by decide) (Nat.le_of_ble_eq_true rfl) (by decide) (by decide) dX11_rest_18 rfl (fun y_4 D_5 h => ?_)
      refine aw_bipush (n := 23) (v := 6) dX11_rest_21 rfl (by decide) ?_
      refine aw_icmp_le (n := 26) (tgt := 29) dX11_rest_23 rfl (by decide) (fun c => ?_) (fun c => ?_)
      · replace h := Ok.ift h c
        obtain ⟨v1_6, e_v1_6, h⟩ := Ok.let_ h
        refine aw_iinc (n := 32) (al' := [some (.ref 0), some (.int v1_6)]) dX11_rest_29 rfl rfl e_v1_6 (by decide) rfl ?_
        refine aw_goto (tgt := 2) dX11_rest_32 (by decide) ?_
        exact aw_le' (hL2 (v1_6, D_5) (Ok.dn h :)) ⟨rfl, ⟨rfl, trivial⟩⟩
      · replace h := Ok.iff h c
        exact aw_le' (hJ_26 D_5 (Ok.el (hR2 (.inl (D_5)) (Ok.dn h :)) :)) trivial
  refine aw_iconst (n := 1) (v := 0) dX11_rest_0 rfl (by decide) ?_
  refine aw_istore_n (n := 2) (i := 1) (al' := [some (.ref 0), some (.int 0)]) dX11_rest_1 rfl rfl rfl (by decide) rfl ?_
  exact aw_le' (hJ_2 0 D h) ⟨rfl, ⟨rfl, trivial⟩⟩
theorem dX11_grow_0 : decode cX11_grow 0 = .ok (.aload_n 0, 1) := by decide +kernel
theorem dX11_grow_1 : decode cX11_grow 1 = .ok (.iload_n 1, 1) := by decide +kernel
theorem dX11_grow_2 : decode cX11_grow 2 = .ok (.invokevirtual 223, 3) := by decide +kernel
theorem dX11_grow_5 : decode cX11_grow 5 = .ok (.iload_n 2, 1) := by decide +kernel
theorem dX11_grow_6 : decode cX11_grow 6 = .ok (.iconst 2, 1) := by decide +kernel
theorem dX11_grow_7 : decode cX11_grow 7 = .ok (.invokestatic 173, 3) := by decide +kernel
theorem dX11_grow_10 : decode cX11_grow 10 = .ok (.invokestatic 121, 3) := by decide +kernel
theorem dX11_grow_13 : decode cX11_grow 13 = .ok (.aload_n 0, 1) := by decide +kernel
theorem dX11_grow_14 : decode cX11_grow 14 = .ok (.getfield 60, 3) := by decide +kernel
theorem dX11_grow_17 : decode cX11_grow 17 = .ok (.invokevirtual 254, 3) := by decide +kernel
theorem dX11_grow_20 : decode cX11_grow 20 = .ok (.aload_n 0, 1) := by decide +kernel
theorem dX11_grow_21 : decode cX11_grow 21 = .ok (.getfield 69, 3) := by decide +kernel
theorem dX11_grow_24 : decode cX11_grow 24 = .ok (.iload_n 1, 1) := by decide +kernel
theorem dX11_grow_25 : decode cX11_grow 25 = .ok (.invokevirtual 278, 3) := by decide +kernel
theorem dX11_grow_28 : decode cX11_grow 28 = .ok (.istore_n 3, 1) := by decide +kernel
theorem dX11_grow_29 : decode cX11_grow 29 = .ok (.iload_n 3, 1) := by decide +kernel
theorem dX11_grow_30 : decode cX11_grow 30 = .ok (.iconst (-1), 1) := by decide +kernel
theorem dX11_grow_31 : decode cX11_grow 31 = .ok (.if_icmp .ne 13, 3) := by decide +kernel
theorem dX11_grow_34 : decode cX11_grow 34 = .ok (.iload_n 2, 1) := by decide +kernel
theorem dX11_grow_35 : decode cX11_grow 35 = .ok (.ifCond .ne 7, 3) := by decide +kernel
theorem dX11_grow_38 : decode cX11_grow 38 = .ok (.iconst (-1), 1) := by decide +kernel
theorem dX11_grow_39 : decode cX11_grow 39 = .ok (.goto 4, 3) := by decide +kernel
theorem dX11_grow_42 : decode cX11_grow 42 = .ok (.iconst 0, 1) := by decide +kernel
theorem dX11_grow_43 : decode cX11_grow 43 = .ok (.ireturn, 1) := by decide +kernel
theorem dX11_grow_44 : decode cX11_grow 44 = .ok (.iload_n 2, 1) := by decide +kernel
theorem dX11_grow_45 : decode cX11_grow 45 = .ok (.ifCond .ne 24, 3) := by decide +kernel
theorem dX11_grow_48 : decode cX11_grow 48 = .ok (.aload_n 0, 1) := by decide +kernel
theorem dX11_grow_49 : decode cX11_grow 49 = .ok (.getfield 69, 3) := by decide +kernel
theorem dX11_grow_52 : decode cX11_grow 52 = .ok (.getfield 281, 3) := by decide +kernel
theorem dX11_grow_55 : decode cX11_grow 55 = .ok (.bipush 64, 2) := by decide +kernel
theorem dX11_grow_57 : decode cX11_grow 57 = .ok (.imul, 1) := by decide +kernel
theorem dX11_grow_58 : decode cX11_grow 58 = .ok (.aload_n 0, 1) := by decide +kernel
theorem dX11_grow_59 : decode cX11_grow 59 = .ok (.getfield 69, 3) := by decide +kernel
theorem dX11_grow_62 : decode cX11_grow 62 = .ok (.getfield 284, 3) := by decide +kernel
theorem dX11_grow_65 : decode cX11_grow 65 = .ok (.iadd, 1) := by decide +kernel
theorem dX11_grow_66 : decode cX11_grow 66 = .ok (.goto 4, 3) := by decide +kernel
theorem dX11_grow_69 : decode cX11_grow 69 = .ok (.iload_n 3, 1) := by decide +kernel
theorem dX11_grow_70 : decode cX11_grow 70 = .ok (.ireturn, 1) := by decide +kernel
def f_X11_grow (v1 : Int32) (v2 : Int32) (D : aD) : Option ((String ⊕ Int32) × aD) :=
  aTry (f_X11_needGarden v1 D) (fun y_1 D_2 => aBi (f_X11_isBelow v2 2 D_2) (fun y_3 D_4 => aTry (f_X11_need y_3 D_4) (fun y_5 D_6 => (f_X1_prepareAll D_6).bind (fun D_7 => aBi (f_X3_plantOneMore v1 D_7) (fun y_8 D_9 => if y_8 ≠ (-1) then (if v2 ≠ 0 then (some (.inr y_8, D_9)) else (some (.inr (((gI D_9 68 8) * 64) + (gI D_9 68 9)), D_9))) else (if v2 ≠ 0 then (some (.inr 0, D_9)) else (some (.inr (-1), D_9))))))))
set_option maxRecDepth 100000 in
set_option maxHeartbeats 800000 in
theorem c_X11_grow {G : aG} (hG : gOK G) {shp : List aSh} (hS : aShp shp) {fr : Option Nat} {v1 : Int32} {v2 : Int32} {D : aD} {K : (String ⊕ Int32) → aD → Prop} (h : Ok2 (f_X11_grow v1 v2 D) K) : AC G (aRm 8 2 12) M_X11_grow [.ref 0, .int v1, .int v2] fr shp D (aQxi shp K) := by
  replace h := Ok2.ok h
  unfold f_X11_grow at h
  refine AC.of (al := [some (.ref 0), some (.int v1), some (.int v2), none]) (r := 1) (by decide) (Nat.le_of_ble_eq_true rfl) rfl ?_
  refine aw_aload_n (n := 1) (i := 0) dX11_grow_0 rfl rfl rfl ?_
  refine aw_iload_n (n := 2) (i := 1) dX11_grow_1 rfl rfl rfl ?_
  refine aw_cVxv (M := M_X11_grow) (n := 5) (As := [.int v1]) (rest := []) (kn := 1) (kn2 := 6) hG.1 lk_RX11_223 rfl rfl (sF_0 hS) (c_X11_needGarden hG hS (h := Ok.try_ h)) (by decide) (Nat.le_of_ble_eq_true rfl) rfl rfl (by decide) (by decide) rfl dX11_grow_2 rfl (fun E D hx => ⟨rfl, Or.inr ⟨E, rfl, hx⟩⟩) (fun y_1 D_2 h => ?_)
  refine aw_iload_n (n := 6) (i := 2) dX11_grow_5 rfl rfl rfl ?_
  refine aw_iconst (n := 7) (v := 2) dX11_grow_6 rfl (by decide) ?_
  refine aw_cSi (M := M_X11_grow) (n := 10) (As := [.int v2, .int 2]) (rest := []) lk_RX11_173 rfl rfl (c_X11_isBelow hG hS (h := Ok.bi h)) (by decide) (Nat.le_of_ble_eq_true rfl) (by decide) (by decide) dX11_grow_7 rfl (fun y_3 D_4 h => ?_)
  refine aw_cSxv (M := M_X11_grow) (n := 13) (As := [.int y_3]) (rest := []) (kn := 2) (kn2 := 12) lk_RX11_121 rfl rfl (c_X11_need hG hS (h := Ok.try_ h)) (by decide) (Nat.le_of_ble_eq_true rfl) rfl rfl (by decide) (by decide) rfl dX11_grow_10 rfl (fun E D hx => ⟨rfl, Or.inr ⟨E, rfl, hx⟩⟩) (fun y_5 D_6 h => ?_)
  refine aw_aload_n (n := 14) (i := 0) dX11_grow_13 rfl rfl rfl ?_
  refine aw_getR (n := 17) (j := 10) (r := 60) hG.1 fl_RX11_60 (sF_0 hS) rfl dX11_grow_14 rfl ?_
  refine aw_cVv (M := M_X11_grow) (n := 20) (As := []) (rest := []) hG.1 lk_RX11_254 rfl rfl (sF_60 hS) (c_X1_prepareAll hG hS (h := Ok.bind h)) (by decide) (Nat.le_of_ble_eq_true rfl) (by decide) (by decide) dX11_grow_17 rfl (fun D_7 h => ?_)
  refine aw_aload_n (n := 21) (i := 0) dX11_grow_20 rfl rfl rfl ?_
  refine aw_getR (n := 24) (j := 11) (r := 68) hG.1 fl_RX11_69 (sF_0 hS) rfl dX11_grow_21 rfl ?_
  refine aw_iload_n (n := 25) (i := 1) dX11_grow_24 rfl rfl rfl ?_
  refine aw_cVi (M := M_X11_grow) (n := 28) (As := [.int v1]) (rest := []) hG.1 lk_RX11_278 rfl rfl (sF_68 hS) (c_X3_plantOneMore hG hS (h := Ok.bi h)) (by decide) (Nat.le_of_ble_eq_true rfl) (by decide) (by decide) dX11_grow_25 rfl (fun y_8 D_9 h => ?_)
  refine aw_istore_n (n := 29) (i := 3) (al' := [some (.ref 0), some (.int v1), some (.int v2), some (.int y_8)]) dX11_grow_28 rfl rfl rfl (by decide) rfl ?_
  refine aw_iload_n (n := 30) (i := 3) dX11_grow_29 rfl rfl rfl ?_
  refine aw_iconst (n := 31) (v := (-1)) dX11_grow_30 rfl (by decide) ?_
  refine aw_icmp_ne (n := 34) (tgt := 44) dX11_grow_31 rfl (by decide) (fun c => ?_) (fun c => ?_)
  · replace h := Ok.ift h c
    refine aw_iload_n (n := 45) (i := 2) dX11_grow_44 rfl rfl rfl ?_
    refine aw_if_ne (n := 48) (tgt := 69) dX11_grow_45 rfl (by decide) (fun c => ?_) (fun c => ?_)
    · replace h := Ok.ift h c
      refine aw_iload_n (n := 70) (i := 3) dX11_grow_69 rfl rfl rfl ?_
      exact aw_iret rfl (by decide) (by decide) dX11_grow_70 ⟨rfl, Or.inl ⟨_, rfl, (Ok.dn h :)⟩⟩
    · replace h := Ok.iffn h c
      refine aw_aload_n (n := 49) (i := 0) dX11_grow_48 rfl rfl rfl ?_
      refine aw_getR (n := 52) (j := 11) (r := 68) hG.1 fl_RX11_69 (sF_0 hS) rfl dX11_grow_49 rfl ?_
      refine aw_getI (n := 55) (j := 8) hG.1 fl_RX11_281 (sF_68 hS) rfl dX11_grow_52 rfl ?_
      refine aw_bipush (n := 57) (v := 64) dX11_grow_55 rfl (by decide) ?_
      refine aw_imul (n := 58) dX11_grow_57 rfl ?_
      refine aw_aload_n (n := 59) (i := 0) dX11_grow_58 rfl rfl rfl ?_
      refine aw_getR (n := 62) (j := 11) (r := 68) hG.1 fl_RX11_69 (sF_0 hS) rfl dX11_grow_59 rfl ?_
      refine aw_getI (n := 65) (j := 9) hG.1 fl_RX11_284 (sF_68 hS) rfl dX11_grow_62 rfl ?_
      refine aw_iadd (n := 66) dX11_grow_65 rfl ?_
      refine aw_goto (tgt := 70) dX11_grow_66 (by decide) ?_
      exact aw_iret rfl (by decide) (by decide) dX11_grow_70 ⟨rfl, Or.inl ⟨_, rfl, (Ok.dn h :)⟩⟩
  · replace h := Ok.iffn h c
    refine aw_iload_n (n := 35) (i := 2) dX11_grow_34 rfl rfl rfl ?_
    refine aw_if_ne (n := 38) (tgt := 42) dX11_grow_35 rfl (by decide) (fun c => ?_) (fun c => ?_)
    · replace h := Ok.ift h c
      refine aw_iconst (n := 43) (v := 0) dX11_grow_42 rfl (by decide) ?_
      exact aw_iret rfl (by decide) (by decide) dX11_grow_43 ⟨rfl, Or.inl ⟨_, rfl, (Ok.dn h :)⟩⟩
    · replace h := Ok.iffn h c
      refine aw_iconst (n := 39) (v := (-1)) dX11_grow_38 rfl (by decide) ?_
      refine aw_goto (tgt := 43) dX11_grow_39 (by decide) ?_
      exact aw_iret rfl (by decide) (by decide) dX11_grow_43 ⟨rfl, Or.inl ⟨_, rfl, (Ok.dn h :)⟩⟩
theorem dX11_fair_0 : decode cX11_fair 0 = .ok (.iload_n 1, 1) := by decide +kernel
theorem dX11_fair_1 : decode cX11_fair 1 = .ok (.iconst 2, 1) := by decide +kernel
theorem dX11_fair_2 : decode cX11_fair 2 = .ok (.invokestatic 173, 3) := by decide +kernel
theorem dX11_fair_5 : decode cX11_fair 5 = .ok (.invokestatic 121, 3) := by decide +kernel
theorem dX11_fair_8 : decode cX11_fair 8 = .ok (.aload_n 0, 1) := by decide +kernel
theorem dX11_fair_9 : decode cX11_fair 9 = .ok (.getfield 20, 3) := by decide +kernel
theorem dX11_fair_12 : decode cX11_fair 12 = .ok (.getfield 149, 3) := by decide +kernel
theorem dX11_fair_15 : decode cX11_fair 15 = .ok (.ifCond .eq 23, 3) := by decide +kernel
theorem dX11_fair_18 : decode cX11_fair 18 = .ok (.aload_n 0, 1) := by decide +kernel
theorem dX11_fair_19 : decode cX11_fair 19 = .ok (.getfield 20, 3) := by decide +kernel
theorem dX11_fair_22 : decode cX11_fair 22 = .ok (.getfield 143, 3) := by decide +kernel
theorem dX11_fair_25 : decode cX11_fair 25 = .ok (.ifCond .eq 13, 3) := by decide +kernel
theorem dX11_fair_28 : decode cX11_fair 28 = .ok (.aload_n 0, 1) := by decide +kernel
theorem dX11_fair_29 : decode cX11_fair 29 = .ok (.getfield 20, 3) := by decide +kernel
theorem dX11_fair_32 : decode cX11_fair 32 = .ok (.invokevirtual 260, 3) := by decide +kernel
theorem dX11_fair_35 : decode cX11_fair 35 = .ok (.ifCond .ne 5, 3) := by decide +kernel
theorem dX11_fair_38 : decode cX11_fair 38 = .ok (.iconst (-1), 1) := by decide +kernel
theorem dX11_fair_39 : decode cX11_fair 39 = .ok (.ireturn, 1) := by decide +kernel
theorem dX11_fair_40 : decode cX11_fair 40 = .ok (.aload_n 0, 1) := by decide +kernel
theorem dX11_fair_41 : decode cX11_fair 41 = .ok (.getfield 76, 3) := by decide +kernel
theorem dX11_fair_44 : decode cX11_fair 44 = .ok (.invokevirtual 287, 3) := by decide +kernel
theorem dX11_fair_47 : decode cX11_fair 47 = .ok (.istore_n 2, 1) := by decide +kernel
theorem dX11_fair_48 : decode cX11_fair 48 = .ok (.iload_n 1, 1) := by decide +kernel
theorem dX11_fair_49 : decode cX11_fair 49 = .ok (.ifCond .ne 23, 3) := by decide +kernel
theorem dX11_fair_52 : decode cX11_fair 52 = .ok (.aload_n 0, 1) := by decide +kernel
theorem dX11_fair_53 : decode cX11_fair 53 = .ok (.getfield 76, 3) := by decide +kernel
theorem dX11_fair_56 : decode cX11_fair 56 = .ok (.getfield 290, 3) := by decide +kernel
theorem dX11_fair_59 : decode cX11_fair 59 = .ok (.aload_n 0, 1) := by decide +kernel
theorem dX11_fair_60 : decode cX11_fair 60 = .ok (.getfield 20, 3) := by decide +kernel
theorem dX11_fair_63 : decode cX11_fair 63 = .ok (.getfield 149, 3) := by decide +kernel
theorem dX11_fair_66 : decode cX11_fair 66 = .ok (.invokestatic 199, 3) := by decide +kernel
theorem dX11_fair_69 : decode cX11_fair 69 = .ok (.goto 4, 3) := by decide +kernel
theorem dX11_fair_72 : decode cX11_fair 72 = .ok (.iload_n 2, 1) := by decide +kernel
theorem dX11_fair_73 : decode cX11_fair 73 = .ok (.ireturn, 1) := by decide +kernel
def f_X11_fair (v1 : Int32) (D : aD) : Option ((String ⊕ Int32) × aD) :=
  aBi (f_X11_isBelow v1 2 D) (fun y_1 D_2 => aTry (f_X11_need y_1 D_2) (fun y_3 D_4 => if gI D_4 2 5 = 0 then (some (.inr (-1), D_4)) else (if gI D_4 2 3 = 0 then (some (.inr (-1), D_4)) else (aBi (f_X6_allWeights D_4) (fun y_5 D_6 => if y_5 ≠ 0 then (aBi (f_X2_search D_6) (fun y_7 D_8 => if v1 ≠ 0 then (some (.inr y_7, D_8)) else (aBi (f_X11_orderOf 76 5 (gI D_8 2 5) D_8) (fun y_9 D_10 => some (.inr y_9, D_10))))) else (some (.inr (-1), D_6)))))))
set_option maxRecDepth 100000 in
set_option maxHeartbeats 800000 in
theorem c_X11_fair {G : aG} (hG : gOK G) {shp : List aSh} (hS : aShp shp) {fr : Option Nat} {v1 : Int32} {D : aD} {K : (String ⊕ Int32) → aD → Prop} (h : Ok2 (f_X11_fair v1 D) K) : AC G (aRm 7 1 6) M_X11_fair [.ref 0, .int v1] fr shp D (aQxi shp K) := by
  replace h := Ok2.ok h
  unfold f_X11_fair at h
  refine AC.of (al := [some (.ref 0), some (.int v1), none]) (r := 1) (by decide) (Nat.le_of_ble_eq_true rfl) rfl ?_
  refine aw_iload_n (n := 1) (i := 1) dX11_fair_0 rfl rfl rfl ?_
  refine aw_iconst (n := 2) (v := 2) dX11_fair_1 rfl (by decide) ?_
  refine aw_cSi (M := M_X11_fair) (n := 5) (As := [.int v1, .int 2]) (rest := []) lk_RX11_173 rfl rfl (c_X11_isBelow hG hS (h := Ok.bi h)) (by decide) (Nat.le_of_ble_eq_true rfl) (by decide) (by decide) dX11_fair_2 rfl (fun y_1 D_2 h => ?_)
  refine aw_cSxv (M := M_X11_fair) (n := 8) (As := [.int y_1]) (rest := []) (kn := 1) (kn2 := 6) lk_RX11_121 rfl rfl (c_X11_need hG hS (h := Ok.try_ h)) (by decide) (Nat.le_of_ble_eq_true rfl) rfl rfl (by decide) (by decide) rfl dX11_fair_5 rfl (fun E D hx => ⟨rfl, Or.inr ⟨E, rfl, hx⟩⟩) (fun y_3 D_4 h => ?_)
  refine aw_aload_n (n := 9) (i := 0) dX11_fair_8 rfl rfl rfl ?_
  refine aw_getR (n := 12) (j := 3) (r := 2) hG.1 fl_RX11_20 (sF_0 hS) rfl dX11_fair_9 rfl ?_
  refine aw_getI (n := 15) (j := 5) hG.1 fl_RX11_149 (sF_2 hS) rfl dX11_fair_12 rfl ?_
  refine aw_if_eq (n := 18) (tgt := 38) dX11_fair_15 rfl (by decide) (fun c => ?_) (fun c => ?_)
  · replace h := Ok.ift h c
    refine aw_iconst (n := 39) (v := (-1)) dX11_fair_38 rfl (by decide) ?_
    exact aw_iret rfl (by decide) (by decide) dX11_fair_39 ⟨rfl, Or.inl ⟨_, rfl, (Ok.dn h :)⟩⟩
  · replace h := Ok.iff h c
    refine aw_aload_n (n := 19) (i := 0) dX11_fair_18 rfl rfl rfl ?_
    refine aw_getR (n := 22) (j := 3) (r := 2) hG.1 fl_RX11_20 (sF_0 hS) rfl dX11_fair_19 rfl ?_
    refine aw_getI (n := 25) (j := 3) hG.1 fl_RX11_143 (sF_2 hS) rfl dX11_fair_22 rfl ?_
    refine aw_if_eq (n := 28) (tgt := 38) dX11_fair_25 rfl (by decide) (fun c => ?_) (fun c => ?_)
    · replace h := Ok.ift h c
      refine aw_iconst (n := 39) (v := (-1)) dX11_fair_38 rfl (by decide) ?_
      exact aw_iret rfl (by decide) (by decide) dX11_fair_39 ⟨rfl, Or.inl ⟨_, rfl, (Ok.dn h :)⟩⟩
    · replace h := Ok.iff h c
      refine aw_aload_n (n := 29) (i := 0) dX11_fair_28 rfl rfl rfl ?_
      refine aw_getR (n := 32) (j := 3) (r := 2) hG.1 fl_RX11_20 (sF_0 hS) rfl dX11_fair_29 rfl ?_
      refine aw_cVi (M := M_X11_fair) (n := 35) (As := []) (rest := []) hG.1 lk_RX11_260 rfl rfl (sF_2 hS) (c_X6_allWeights hG hS (h := Ok.bi h)) (by decide) (Nat.le_of_ble_eq_true rfl) (by decide) (by decide) dX11_fair_32 rfl (fun y_5 D_6 h => ?_)
      refine aw_if_ne (n := 38) (tgt := 40) dX11_fair_35 rfl (by decide) (fun c => ?_) (fun c => ?_)
      · replace h := Ok.ift h c
        refine aw_aload_n (n := 41) (i := 0) dX11_fair_40 rfl rfl rfl ?_
        refine aw_getR (n := 44) (j := 12) (r := 74) hG.1 fl_RX11_76 (sF_0 hS) rfl dX11_fair_41 rfl ?_
        refine aw_cVi (M := M_X11_fair) (n := 47) (As := []) (rest := []) hG.1 lk_RX11_287 rfl rfl (sF_74 hS) (c_X2_search hG hS (h := Ok.bi h)) (by decide) (Nat.le_of_ble_eq_true rfl) (by decide) (by decide) dX11_fair_44 rfl (fun y_7 D_8 h => ?_)
        refine aw_istore_n (n := 48) (i := 2) (al' := [some (.ref 0), some (.int v1), some (.int y_7)]) dX11_fair_47 rfl rfl rfl (by decide) rfl ?_
        refine aw_iload_n (n := 49) (i := 1) dX11_fair_48 rfl rfl rfl ?_
        refine aw_if_ne (n := 52) (tgt := 72) dX11_fair_49 rfl (by decide) (fun c => ?_) (fun c => ?_)
        · replace h := Ok.ift h c
          refine aw_iload_n (n := 73) (i := 2) dX11_fair_72 rfl rfl rfl ?_
          exact aw_iret rfl (by decide) (by decide) dX11_fair_73 ⟨rfl, Or.inl ⟨_, rfl, (Ok.dn h :)⟩⟩
        · replace h := Ok.iffn h c
          refine aw_aload_n (n := 53) (i := 0) dX11_fair_52 rfl rfl rfl ?_
          refine aw_getR (n := 56) (j := 12) (r := 74) hG.1 fl_RX11_76 (sF_0 hS) rfl dX11_fair_53 rfl ?_
          refine aw_getR (n := 59) (j := 4) (r := 76) hG.1 fl_RX11_290 (sF_74 hS) rfl dX11_fair_56 rfl ?_
          refine aw_aload_n (n := 60) (i := 0) dX11_fair_59 rfl rfl rfl ?_
          refine aw_getR (n := 63) (j := 3) (r := 2) hG.1 fl_RX11_20 (sF_0 hS) rfl dX11_fair_60 rfl ?_
          refine aw_getI (n := 66) (j := 5) hG.1 fl_RX11_149 (sF_2 hS) rfl dX11_fair_63 rfl ?_
          refine aw_cSi (M := M_X11_fair) (n := 69) (As := [.ref 76, .int (gI D_8 2 5)]) (rest := []) lk_RX11_199 rfl rfl (c_X11_orderOf hG hS (h := Ok.bi h) (sF_76 hS)) (by decide) (Nat.le_of_ble_eq_true rfl) (by decide) (by decide) dX11_fair_66 rfl (fun y_9 D_10 h => ?_)
          refine aw_goto (tgt := 73) dX11_fair_69 (by decide) ?_
          exact aw_iret rfl (by decide) (by decide) dX11_fair_73 ⟨rfl, Or.inl ⟨_, rfl, (Ok.dn h :)⟩⟩
      · replace h := Ok.iffn h c
        refine aw_iconst (n := 39) (v := (-1)) dX11_fair_38 rfl (by decide) ?_
        exact aw_iret rfl (by decide) (by decide) dX11_fair_39 ⟨rfl, Or.inl ⟨_, rfl, (Ok.dn h :)⟩⟩
theorem dX11_nose_0 : decode cX11_nose 0 = .ok (.iload_n 1, 1) := by decide +kernel
theorem dX11_nose_1 : decode cX11_nose 1 = .ok (.aload_n 0, 1) := by decide +kernel
theorem dX11_nose_2 : decode cX11_nose 2 = .ok (.getfield 20, 3) := by decide +kernel
theorem dX11_nose_5 : decode cX11_nose 5 = .ok (.getfield 149, 3) := by decide +kernel
theorem dX11_nose_8 : decode cX11_nose 8 = .ok (.invokestatic 173, 3) := by decide +kernel
theorem dX11_nose_11 : decode cX11_nose 11 = .ok (.ifCond .eq 30, 3) := by decide +kernel
theorem dX11_nose_14 : decode cX11_nose 14 = .ok (.iload_n 2, 1) := by decide +kernel
theorem dX11_nose_15 : decode cX11_nose 15 = .ok (.bipush 24, 2) := by decide +kernel
theorem dX11_nose_17 : decode cX11_nose 17 = .ok (.invokestatic 173, 3) := by decide +kernel
theorem dX11_nose_20 : decode cX11_nose 20 = .ok (.ifCond .eq 21, 3) := by decide +kernel
theorem dX11_nose_23 : decode cX11_nose 23 = .ok (.iload_n 3, 1) := by decide +kernel
theorem dX11_nose_24 : decode cX11_nose 24 = .ok (.aload_n 0, 1) := by decide +kernel
theorem dX11_nose_25 : decode cX11_nose 25 = .ok (.getfield 20, 3) := by decide +kernel
theorem dX11_nose_28 : decode cX11_nose 28 = .ok (.getfield 140, 3) := by decide +kernel
theorem dX11_nose_31 : decode cX11_nose 31 = .ok (.invokestatic 173, 3) := by decide +kernel
theorem dX11_nose_34 : decode cX11_nose 34 = .ok (.ifCond .eq 7, 3) := by decide +kernel
theorem dX11_nose_37 : decode cX11_nose 37 = .ok (.iconst 1, 1) := by decide +kernel
theorem dX11_nose_38 : decode cX11_nose 38 = .ok (.goto 4, 3) := by decide +kernel
theorem dX11_nose_41 : decode cX11_nose 41 = .ok (.iconst 0, 1) := by decide +kernel
theorem dX11_nose_42 : decode cX11_nose 42 = .ok (.invokestatic 121, 3) := by decide +kernel
theorem dX11_nose_45 : decode cX11_nose 45 = .ok (.aload_n 0, 1) := by decide +kernel
theorem dX11_nose_46 : decode cX11_nose 46 = .ok (.getfield 30, 3) := by decide +kernel
theorem dX11_nose_49 : decode cX11_nose 49 = .ok (.getfield 170, 3) := by decide +kernel
theorem dX11_nose_52 : decode cX11_nose 52 = .ok (.bipush 12, 2) := by decide +kernel
theorem dX11_nose_54 : decode cX11_nose 54 = .ok (.if_icmp .ge 16, 3) := by decide +kernel
theorem dX11_nose_57 : decode cX11_nose 57 = .ok (.iload 4, 2) := by decide +kernel
theorem dX11_nose_59 : decode cX11_nose 59 = .ok (.ifCond .lt 11, 3) := by decide +kernel
theorem dX11_nose_62 : decode cX11_nose 62 = .ok (.iload 4, 2) := by decide +kernel
theorem dX11_nose_64 : decode cX11_nose 64 = .ok (.sipush 9999, 3) := by decide +kernel
theorem dX11_nose_67 : decode cX11_nose 67 = .ok (.if_icmp .le 18, 3) := by decide +kernel
theorem dX11_nose_70 : decode cX11_nose 70 = .ok (.aload_n 0, 1) := by decide +kernel
theorem dX11_nose_71 : decode cX11_nose 71 = .ok (.getfield 30, 3) := by decide +kernel
theorem dX11_nose_74 : decode cX11_nose 74 = .ok (.getfield 106, 3) := by decide +kernel
theorem dX11_nose_77 : decode cX11_nose 77 = .ok (.iconst 2, 1) := by decide +kernel
theorem dX11_nose_78 : decode cX11_nose 78 = .ok (.dup2, 1) := by decide +kernel
theorem dX11_nose_79 : decode cX11_nose 79 = .ok (.iaload, 1) := by decide +kernel
theorem dX11_nose_80 : decode cX11_nose 80 = .ok (.iconst 1, 1) := by decide +kernel
theorem dX11_nose_81 : decode cX11_nose 81 = .ok (.iadd, 1) := by decide +kernel
theorem dX11_nose_82 : decode cX11_nose 82 = .ok (.iastore, 1) := by decide +kernel
theorem dX11_nose_83 : decode cX11_nose 83 = .ok (.iconst (-1), 1) := by decide +kernel
theorem dX11_nose_84 : decode cX11_nose 84 = .ok (.ireturn, 1) := by decide +kernel
theorem dX11_nose_85 : decode cX11_nose 85 = .ok (.aload_n 0, 1) := by decide +kernel
theorem dX11_nose_86 : decode cX11_nose 86 = .ok (.getfield 30, 3) := by decide +kernel
theorem dX11_nose_89 : decode cX11_nose 89 = .ok (.iload_n 1, 1) := by decide +kernel
theorem dX11_nose_90 : decode cX11_nose 90 = .ok (.iload_n 2, 1) := by decide +kernel
theorem dX11_nose_91 : decode cX11_nose 91 = .ok (.iload_n 3, 1) := by decide +kernel
theorem dX11_nose_92 : decode cX11_nose 92 = .ok (.iload 4, 2) := by decide +kernel
theorem dX11_nose_94 : decode cX11_nose 94 = .ok (.invokevirtual 293, 3) := by decide +kernel
theorem dX11_nose_97 : decode cX11_nose 97 = .ok (.aload_n 0, 1) := by decide +kernel
theorem dX11_nose_98 : decode cX11_nose 98 = .ok (.getfield 30, 3) := by decide +kernel
theorem dX11_nose_101 : decode cX11_nose 101 = .ok (.getfield 170, 3) := by decide +kernel
theorem dX11_nose_104 : decode cX11_nose 104 = .ok (.ireturn, 1) := by decide +kernel
def J_X11_nose_70 (D : aD) : Option ((String ⊕ Int32) × aD) :=
  aGd (aIn 2 3) (aGd (aIn 2 3) (aLet (pI D 47 (2 : Int32).toNatClampNeg ((gI D 47 (2 : Int32).toNatClampNeg) + 1)) (fun D_7 => some (.inr (-1), D_7))))
def J_X11_nose_42 (v1 : Int32) (v2 : Int32) (v3 : Int32) (v4 : Int32) (t0 : Int32) (D : aD) : Option ((String ⊕ Int32) × aD) :=
  aTry (f_X11_need t0 D) (fun y_3 D_4 => if 12 ≤ gI D_4 40 4 then (J_X11_nose_70 D_4) else (if v4 < 0 then (J_X11_nose_70 D_4) else (if v4 ≤ 9999 then ((f_X9_note v1 v2 v3 v4 D_4).bind (fun D_8 => some (.inr (gI D_8 40 4), D_8))) else (J_X11_nose_70 D_4))))
def J_X11_nose_41 (v1 : Int32) (v2 : Int32) (v3 : Int32) (v4 : Int32) (D : aD) : Option ((String ⊕ Int32) × aD) :=
  J_X11_nose_42 v1 v2 v3 v4 0 D
def f_X11_nose (v1 : Int32) (v2 : Int32) (v3 : Int32) (v4 : Int32) (D : aD) : Option ((String ⊕ Int32) × aD) :=
  aBi (f_X11_isBelow v1 (gI D 2 5) D) (fun y_1 D_2 => if y_1 = 0 then (J_X11_nose_41 v1 v2 v3 v4 D_2) else (aBi (f_X11_isBelow v2 24 D_2) (fun y_9 D_10 => if y_9 = 0 then (J_X11_nose_41 v1 v2 v3 v4 D_10) else (aBi (f_X11_isBelow v3 (gI D_10 2 2) D_10) (fun y_11 D_12 => if y_11 = 0 then (J_X11_nose_41 v1 v2 v3 v4 D_12) else (J_X11_nose_42 v1 v2 v3 v4 1 D_12))))))
set_option maxRecDepth 100000 in
set_option maxHeartbeats 800000 in
theorem c_X11_nose {G : aG} (hG : gOK G) {shp : List aSh} (hS : aShp shp) {fr : Option Nat} {v1 : Int32} {v2 : Int32} {v3 : Int32} {v4 : Int32} {D : aD} {K : (String ⊕ Int32) → aD → Prop} (h : Ok2 (f_X11_nose v1 v2 v3 v4 D) K) : AC G (aRm 7 1 6) M_X11_nose [.ref 0, .int v1, .int v2, .int v3, .int v4] fr shp D (aQxi shp K) := by
  replace h := Ok2.ok h
  unfold f_X11_nose at h
  refine AC.of (al := [some (.ref 0), some (.int v1), some (.int v2), some (.int v3), some (.int v4)]) (r := 0) (by decide) (Nat.le_of_ble_eq_true rfl) rfl ?_
  have hJ_70 : ∀ (D : aD), Ok (J_X11_nose_70 D) (fun r => K r.1 r.2) → AW G (aRm 7 1 6) M_X11_nose fr 1 6 70 [some (.ref 0), none, none, none, none] [] shp D (aQxi shp K) := by
    intro D h
    unfold J_X11_nose_70 at h
    refine aw_aload_n (n := 71) (i := 0) dX11_nose_70 rfl rfl rfl ?_
    refine aw_getR (n := 74) (j := 5) (r := 40) hG.1 fl_RX11_30 (sF_0 hS) rfl dX11_nose_71 rfl ?_
    refine aw_getR (n := 77) (j := 9) (r := 47) hG.1 fl_RX11_106 (sF_40 hS) rfl dX11_nose_74 rfl ?_
    refine aw_iconst (n := 78) (v := 2) dX11_nose_77 rfl (by decide) ?_
    refine aw_dup2 (n := 79) dX11_nose_78 rfl rfl rfl ?_
    obtain ⟨g_5, h⟩ := Ok.gd h
    refine aw_iaload (n := 80) hG.1 (sF_47 hS) (aIn_in g_5) dX11_nose_79 rfl ?_
    refine aw_iconst (n := 81) (v := 1) dX11_nose_80 rfl (by decide) ?_
    refine aw_iadd (n := 82) dX11_nose_81 rfl ?_
    obtain ⟨g_6, h⟩ := Ok.gd h
    obtain ⟨D_7, e_D_7, h⟩ := Ok.let_ h
    refine aw_iastore (n := 83) hG.1 (sF_47 hS) (aIn_in g_6) e_D_7 dX11_nose_82 rfl ?_
    refine aw_iconst (n := 84) (v := (-1)) dX11_nose_83 rfl (by decide) ?_
    exact aw_iret rfl (by decide) (by decide) dX11_nose_84 ⟨rfl, Or.inl ⟨_, rfl, (Ok.dn h :)⟩⟩
  have hJ_42 : ∀ (v1 : Int32) (v2 : Int32) (v3 : Int32) (v4 : Int32) (t0 : Int32) (D : aD), Ok (J_X11_nose_42 v1 v2 v3 v4 t0 D) (fun r => K r.1 r.2) → AW G (aRm 7 1 6) M_X11_nose fr 0 0 42 [some (.ref 0), some (.int v1), some (.int v2), some (.int v3), some (.int v4)] [.int t0] shp D (aQxi shp K) := by
    intro v1 v2 v3 v4 t0 D h
    unfold J_X11_nose_42 at h
    refine aw_cSxv (M := M_X11_nose) (n := 45) (As := [.int t0]) (rest := []) (kn := 1) (kn2 := 6) lk_RX11_121 rfl rfl (c_X11_need hG hS (h := Ok.try_ h)) (by decide) (Nat.le_of_ble_eq_true rfl) rfl rfl (by decide) (by decide) rfl dX11_nose_42 rfl (fun E D hx => ⟨rfl, Or.inr ⟨E, rfl, hx⟩⟩) (fun y_3 D_4 h => ?_)
    refine aw_aload_n (n := 46) (i := 0) dX11_nose_45 rfl rfl rfl ?_
    refine aw_getR (n := 49) (j := 5) (r := 40) hG.1 fl_RX11_30 (sF_0 hS) rfl dX11_nose_46 rfl ?_
    refine aw_getI (n := 52) (j := 4) hG.1 fl_RX11_170 (sF_40 hS) rfl dX11_nose_49 rfl ?_
    refine aw_bipush (n := 54) (v := 12) dX11_nose_52 rfl (by decide) ?_
    refine aw_icmp_ge (n := 57) (tgt := 70) dX11_nose_54 rfl (by decide) (fun c => ?_) (fun c => ?_)
    · replace h := Ok.ift h c
      exact aw_wid (by decide) (by decide) <| aw_le' (hJ_70 D_4 h) ⟨rfl, trivial⟩
    · replace h := Ok.iff h c
      refine aw_iload (n := 59) (i := 4) dX11_nose_57 rfl rfl ?_
      refine aw_if_lt (n := 62) (tgt := 70) dX11_nose_59 rfl (by decide) (fun c => ?_) (fun c => ?_)
      · replace h := Ok.ift h c
        exact aw_wid (by decide) (by decide) <| aw_le' (hJ_70 D_4 h) ⟨rfl, trivial⟩
      · replace h := Ok.iff h c
        refine aw_iload (n := 64) (i := 4) dX11_nose_62 rfl rfl ?_
        refine aw_sipush (n := 67) (v := 9999) dX11_nose_64 rfl (by decide) ?_
        refine aw_icmp_le (n := 70) (tgt := 85) dX11_nose_67 rfl (by decide) (fun c => ?_) (fun c => ?_)
        · replace h := Ok.ift h c
          refine aw_aload_n (n := 86) (i := 0) dX11_nose_85 rfl rfl rfl ?_
          refine aw_getR (n := 89) (j := 5) (r := 40) hG.1 fl_RX11_30 (sF_0 hS) rfl dX11_nose_86 rfl ?_
          refine aw_iload_n (n := 90) (i := 1) dX11_nose_89 rfl rfl rfl ?_
          refine aw_iload_n (n := 91) (i := 2) dX11_nose_90 rfl rfl rfl ?_
          refine aw_iload_n (n := 92) (i := 3) dX11_nose_91 rfl rfl rfl ?_
          refine aw_iload (n := 94) (i := 4) dX11_nose_92 rfl rfl ?_
          refine aw_cVv (M := M_X11_nose) (n := 97) (As := [.int v1, .int v2, .int v3, .int v4]) (rest := []) hG.1 lk_RX11_293 rfl rfl (sF_40 hS) (c_X9_note hG hS (h := Ok.bind h)) (by decide) (Nat.le_of_ble_eq_true rfl) (by decide) (by decide) dX11_nose_94 rfl (fun D_8 h => ?_)
          refine aw_aload_n (n := 98) (i := 0) dX11_nose_97 rfl rfl rfl ?_
          refine aw_getR (n := 101) (j := 5) (r := 40) hG.1 fl_RX11_30 (sF_0 hS) rfl dX11_nose_98 rfl ?_
          refine aw_getI (n := 104) (j := 4) hG.1 fl_RX11_170 (sF_40 hS) rfl dX11_nose_101 rfl ?_
          exact aw_iret rfl (by decide) (by decide) dX11_nose_104 ⟨rfl, Or.inl ⟨_, rfl, (Ok.dn h :)⟩⟩
        · replace h := Ok.iff h c
          exact aw_wid (by decide) (by decide) <| aw_le' (hJ_70 D_4 h) ⟨rfl, trivial⟩
  have hJ_41 : ∀ (v1 : Int32) (v2 : Int32) (v3 : Int32) (v4 : Int32) (D : aD), Ok (J_X11_nose_41 v1 v2 v3 v4 D) (fun r => K r.1 r.2) → AW G (aRm 7 1 6) M_X11_nose fr 0 0 41 [some (.ref 0), some (.int v1), some (.int v2), some (.int v3), some (.int v4)] [] shp D (aQxi shp K) := by
    intro v1 v2 v3 v4 D h
    unfold J_X11_nose_41 at h
    refine aw_iconst (n := 42) (v := 0) dX11_nose_41 rfl (by decide) ?_
    exact aw_wid (by decide) (by decide) <| aw_le' (hJ_42 v1 v2 v3 v4 0 D h) ⟨rfl, ⟨rfl, ⟨rfl, ⟨rfl, ⟨rfl, trivial⟩⟩⟩⟩⟩
  refine aw_iload_n (n := 1) (i := 1) dX11_nose_0 rfl rfl rfl ?_
  refine aw_aload_n (n := 2) (i := 0) dX11_nose_1 rfl rfl rfl ?_
  refine aw_getR (n := 5) (j := 3) (r := 2) hG.1 fl_RX11_20 (sF_0 hS) rfl dX11_nose_2 rfl ?_
  refine aw_getI (n := 8) (j := 5) hG.1 fl_RX11_149 (sF_2 hS) rfl dX11_nose_5 rfl ?_
  refine aw_cSi (M := M_X11_nose) (n := 11) (As := [.int v1, .int (gI D 2 5)]) (rest := []) lk_RX11_173 rfl rfl (c_X11_isBelow hG hS (h := Ok.bi h)) (by decide) (Nat.le_of_ble_eq_true rfl) (by decide) (by decide) dX11_nose_8 rfl (fun y_1 D_2 h => ?_)
  refine aw_if_eq (n := 14) (tgt := 41) dX11_nose_11 rfl (by decide) (fun c => ?_) (fun c => ?_)
  · replace h := Ok.ift h c
    exact aw_wid (by decide) (by decide) <| aw_le' (hJ_41 v1 v2 v3 v4 D_2 h) ⟨rfl, ⟨rfl, ⟨rfl, ⟨rfl, ⟨rfl, trivial⟩⟩⟩⟩⟩
  · replace h := Ok.iff h c
    refine aw_iload_n (n := 15) (i := 2) dX11_nose_14 rfl rfl rfl ?_
    refine aw_bipush (n := 17) (v := 24) dX11_nose_15 rfl (by decide) ?_
    refine aw_cSi (M := M_X11_nose) (n := 20) (As := [.int v2, .int 24]) (rest := []) lk_RX11_173 rfl rfl (c_X11_isBelow hG hS (h := Ok.bi h)) (by decide) (Nat.le_of_ble_eq_true rfl) (by decide) (by decide) dX11_nose_17 rfl (fun y_9 D_10 h => ?_)
    refine aw_if_eq (n := 23) (tgt := 41) dX11_nose_20 rfl (by decide) (fun c => ?_) (fun c => ?_)
    · replace h := Ok.ift h c
      exact aw_wid (by decide) (by decide) <| aw_le' (hJ_41 v1 v2 v3 v4 D_10 h) ⟨rfl, ⟨rfl, ⟨rfl, ⟨rfl, ⟨rfl, trivial⟩⟩⟩⟩⟩
    · replace h := Ok.iff h c
      refine aw_iload_n (n := 24) (i := 3) dX11_nose_23 rfl rfl rfl ?_
      refine aw_aload_n (n := 25) (i := 0) dX11_nose_24 rfl rfl rfl ?_
      refine aw_getR (n := 28) (j := 3) (r := 2) hG.1 fl_RX11_20 (sF_0 hS) rfl dX11_nose_25 rfl ?_
      refine aw_getI (n := 31) (j := 2) hG.1 fl_RX11_140 (sF_2 hS) rfl dX11_nose_28 rfl ?_
      refine aw_cSi (M := M_X11_nose) (n := 34) (As := [.int v3, .int (gI D_10 2 2)]) (rest := []) lk_RX11_173 rfl rfl (c_X11_isBelow hG hS (h := Ok.bi h)) (by decide) (Nat.le_of_ble_eq_true rfl) (by decide) (by decide) dX11_nose_31 rfl (fun y_11 D_12 h => ?_)
      refine aw_if_eq (n := 37) (tgt := 41) dX11_nose_34 rfl (by decide) (fun c => ?_) (fun c => ?_)
      · replace h := Ok.ift h c
        exact aw_wid (by decide) (by decide) <| aw_le' (hJ_41 v1 v2 v3 v4 D_12 h) ⟨rfl, ⟨rfl, ⟨rfl, ⟨rfl, ⟨rfl, trivial⟩⟩⟩⟩⟩
      · replace h := Ok.iff h c
        refine aw_iconst (n := 38) (v := 1) dX11_nose_37 rfl (by decide) ?_
        refine aw_goto (tgt := 42) dX11_nose_38 (by decide) ?_
        exact aw_wid (by decide) (by decide) <| aw_le' (hJ_42 v1 v2 v3 v4 1 D_12 h) ⟨rfl, ⟨rfl, ⟨rfl, ⟨rfl, ⟨rfl, trivial⟩⟩⟩⟩⟩
theorem dX11_forget_0 : decode cX11_forget 0 = .ok (.aload_n 0, 1) := by decide +kernel
theorem dX11_forget_1 : decode cX11_forget 1 = .ok (.getfield 30, 3) := by decide +kernel
theorem dX11_forget_4 : decode cX11_forget 4 = .ok (.getfield 170, 3) := by decide +kernel
theorem dX11_forget_7 : decode cX11_forget 7 = .ok (.ifCond .ne 5, 3) := by decide +kernel
theorem dX11_forget_10 : decode cX11_forget 10 = .ok (.iconst (-1), 1) := by decide +kernel
theorem dX11_forget_11 : decode cX11_forget 11 = .ok (.ireturn, 1) := by decide +kernel
theorem dX11_forget_12 : decode cX11_forget 12 = .ok (.aload_n 0, 1) := by decide +kernel
theorem dX11_forget_13 : decode cX11_forget 13 = .ok (.getfield 30, 3) := by decide +kernel
theorem dX11_forget_16 : decode cX11_forget 16 = .ok (.dup, 1) := by decide +kernel
theorem dX11_forget_17 : decode cX11_forget 17 = .ok (.getfield 170, 3) := by decide +kernel
theorem dX11_forget_20 : decode cX11_forget 20 = .ok (.iconst 1, 1) := by decide +kernel
theorem dX11_forget_21 : decode cX11_forget 21 = .ok (.isub, 1) := by decide +kernel
theorem dX11_forget_22 : decode cX11_forget 22 = .ok (.putfield 170, 3) := by decide +kernel
theorem dX11_forget_25 : decode cX11_forget 25 = .ok (.aload_n 0, 1) := by decide +kernel
theorem dX11_forget_26 : decode cX11_forget 26 = .ok (.getfield 30, 3) := by decide +kernel
theorem dX11_forget_29 : decode cX11_forget 29 = .ok (.getfield 170, 3) := by decide +kernel
theorem dX11_forget_32 : decode cX11_forget 32 = .ok (.ireturn, 1) := by decide +kernel
def f_X11_forget (D : aD) : Option (Int32 × aD) :=
  if gI D 40 4 ≠ 0 then (aLet (pI D 40 4 ((gI D 40 4) - 1)) (fun D_1 => some (gI D_1 40 4, D_1))) else (some ((-1), D))
set_option maxRecDepth 100000 in
set_option maxHeartbeats 800000 in
theorem c_X11_forget {G : aG} (hG : gOK G) {shp : List aSh} (hS : aShp shp) {fr : Option Nat} {D : aD} {K : Int32 → aD → Prop} (h : Ok2 (f_X11_forget D) K) : AC G (aRm 1 0 0) M_X11_forget [.ref 0] fr shp D (aQi shp K) := by
  replace h := Ok2.ok h
  unfold f_X11_forget at h
  refine AC.of (al := [some (.ref 0)]) (r := 0) (by decide) (Nat.le_of_ble_eq_true rfl) rfl ?_
  refine aw_aload_n (n := 1) (i := 0) dX11_forget_0 rfl rfl rfl ?_
  refine aw_getR (n := 4) (j := 5) (r := 40) hG.1 fl_RX11_30 (sF_0 hS) rfl dX11_forget_1 rfl ?_
  refine aw_getI (n := 7) (j := 4) hG.1 fl_RX11_170 (sF_40 hS) rfl dX11_forget_4 rfl ?_
  refine aw_if_ne (n := 10) (tgt := 12) dX11_forget_7 rfl (by decide) (fun c => ?_) (fun c => ?_)
  · replace h := Ok.ift h c
    refine aw_aload_n (n := 13) (i := 0) dX11_forget_12 rfl rfl rfl ?_
    refine aw_getR (n := 16) (j := 5) (r := 40) hG.1 fl_RX11_30 (sF_0 hS) rfl dX11_forget_13 rfl ?_
    refine aw_dup (n := 17) dX11_forget_16 rfl rfl ?_
    refine aw_getI (n := 20) (j := 4) hG.1 fl_RX11_170 (sF_40 hS) rfl dX11_forget_17 rfl ?_
    refine aw_iconst (n := 21) (v := 1) dX11_forget_20 rfl (by decide) ?_
    refine aw_isub (n := 22) dX11_forget_21 rfl ?_
    obtain ⟨D_1, e_D_1, h⟩ := Ok.let_ h
    refine aw_putI (n := 25) (j := 4) hG.1 fl_RX11_170 (sF_40 hS) rfl e_D_1 dX11_forget_22 rfl ?_
    refine aw_aload_n (n := 26) (i := 0) dX11_forget_25 rfl rfl rfl ?_
    refine aw_getR (n := 29) (j := 5) (r := 40) hG.1 fl_RX11_30 (sF_0 hS) rfl dX11_forget_26 rfl ?_
    refine aw_getI (n := 32) (j := 4) hG.1 fl_RX11_170 (sF_40 hS) rfl dX11_forget_29 rfl ?_
    exact aw_iret rfl (by decide) (by decide) dX11_forget_32 ⟨_, rfl, rfl, (Ok.dn h :)⟩
  · replace h := Ok.iffn h c
    refine aw_iconst (n := 11) (v := (-1)) dX11_forget_10 rfl (by decide) ?_
    exact aw_iret rfl (by decide) (by decide) dX11_forget_11 ⟨_, rfl, rfl, (Ok.dn h :)⟩
theorem dX11_cases_0 : decode cX11_cases 0 = .ok (.iload_n 1, 1) := by decide +kernel
theorem dX11_cases_1 : decode cX11_cases 1 = .ok (.iconst (-1), 1) := by decide +kernel
theorem dX11_cases_2 : decode cX11_cases 2 = .ok (.if_icmp .lt 7, 3) := by decide +kernel
theorem dX11_cases_5 : decode cX11_cases 5 = .ok (.iconst 1, 1) := by decide +kernel
theorem dX11_cases_6 : decode cX11_cases 6 = .ok (.goto 4, 3) := by decide +kernel
theorem dX11_cases_9 : decode cX11_cases 9 = .ok (.iconst 0, 1) := by decide +kernel
theorem dX11_cases_10 : decode cX11_cases 10 = .ok (.invokestatic 121, 3) := by decide +kernel
theorem dX11_cases_13 : decode cX11_cases 13 = .ok (.aload_n 0, 1) := by decide +kernel
theorem dX11_cases_14 : decode cX11_cases 14 = .ok (.getfield 83, 3) := by decide +kernel
theorem dX11_cases_17 : decode cX11_cases 17 = .ok (.invokevirtual 297, 3) := by decide +kernel
theorem dX11_cases_20 : decode cX11_cases 20 = .ok (.iload_n 1, 1) := by decide +kernel
theorem dX11_cases_21 : decode cX11_cases 21 = .ok (.iconst (-1), 1) := by decide +kernel
theorem dX11_cases_22 : decode cX11_cases 22 = .ok (.if_icmp .ne 11, 3) := by decide +kernel
theorem dX11_cases_25 : decode cX11_cases 25 = .ok (.aload_n 0, 1) := by decide +kernel
theorem dX11_cases_26 : decode cX11_cases 26 = .ok (.getfield 83, 3) := by decide +kernel
theorem dX11_cases_29 : decode cX11_cases 29 = .ok (.getfield 300, 3) := by decide +kernel
theorem dX11_cases_32 : decode cX11_cases 32 = .ok (.ireturn, 1) := by decide +kernel
theorem dX11_cases_33 : decode cX11_cases 33 = .ok (.iload_n 1, 1) := by decide +kernel
theorem dX11_cases_34 : decode cX11_cases 34 = .ok (.aload_n 0, 1) := by decide +kernel
theorem dX11_cases_35 : decode cX11_cases 35 = .ok (.getfield 83, 3) := by decide +kernel
theorem dX11_cases_38 : decode cX11_cases 38 = .ok (.getfield 300, 3) := by decide +kernel
theorem dX11_cases_41 : decode cX11_cases 41 = .ok (.if_icmp .ge 7, 3) := by decide +kernel
theorem dX11_cases_44 : decode cX11_cases 44 = .ok (.iconst 1, 1) := by decide +kernel
theorem dX11_cases_45 : decode cX11_cases 45 = .ok (.goto 4, 3) := by decide +kernel
theorem dX11_cases_48 : decode cX11_cases 48 = .ok (.iconst 0, 1) := by decide +kernel
theorem dX11_cases_49 : decode cX11_cases 49 = .ok (.invokestatic 121, 3) := by decide +kernel
theorem dX11_cases_52 : decode cX11_cases 52 = .ok (.aload_n 0, 1) := by decide +kernel
theorem dX11_cases_53 : decode cX11_cases 53 = .ok (.getfield 83, 3) := by decide +kernel
theorem dX11_cases_56 : decode cX11_cases 56 = .ok (.iload_n 1, 1) := by decide +kernel
theorem dX11_cases_57 : decode cX11_cases 57 = .ok (.invokevirtual 303, 3) := by decide +kernel
theorem dX11_cases_60 : decode cX11_cases 60 = .ok (.ireturn, 1) := by decide +kernel
def J_X11_cases_49 (v1 : Int32) (t0 : Int32) (D : aD) : Option ((String ⊕ Int32) × aD) :=
  aTry (f_X11_need t0 D) (fun y_4 D_5 => aBi (f_X10_numberOf v1 D_5) (fun y_6 D_7 => some (.inr y_6, D_7)))
def J_X11_cases_10 (v1 : Int32) (t0 : Int32) (D : aD) : Option ((String ⊕ Int32) × aD) :=
  aTry (f_X11_need t0 D) (fun y_1 D_2 => (f_X10_collect D_2).bind (fun D_3 => if v1 ≠ (-1) then (if gI D_3 79 4 ≤ v1 then (J_X11_cases_49 v1 0 D_3) else (J_X11_cases_49 v1 1 D_3)) else (some (.inr (gI D_3 79 4), D_3))))
def f_X11_cases (v1 : Int32) (D : aD) : Option ((String ⊕ Int32) × aD) :=
  if v1 < (-1) then (J_X11_cases_10 v1 0 D) else (J_X11_cases_10 v1 1 D)
set_option maxRecDepth 100000 in
set_option maxHeartbeats 800000 in
theorem c_X11_cases {G : aG} (hG : gOK G) {shp : List aSh} (hS : aShp shp) {fr : Option Nat} {v1 : Int32} {D : aD} {K : (String ⊕ Int32) → aD → Prop} (h : Ok2 (f_X11_cases v1 D) K) : AC G (aRm 7 2 12) M_X11_cases [.ref 0, .int v1] fr shp D (aQxi shp K) := by
  replace h := Ok2.ok h
  unfold f_X11_cases at h
  refine AC.of (al := [some (.ref 0), some (.int v1)]) (r := 0) (by decide) (Nat.le_of_ble_eq_true rfl) rfl ?_
  have hJ_49 : ∀ (v1 : Int32) (t0 : Int32) (D : aD), Ok (J_X11_cases_49 v1 t0 D) (fun r => K r.1 r.2) → AW G (aRm 7 2 12) M_X11_cases fr 1 6 49 [some (.ref 0), some (.int v1)] [.int t0] shp D (aQxi shp K) := by
    intro v1 t0 D h
    unfold J_X11_cases_49 at h
    refine aw_cSxv (M := M_X11_cases) (n := 52) (As := [.int t0]) (rest := []) (kn := 2) (kn2 := 12) lk_RX11_121 rfl rfl (c_X11_need hG hS (h := Ok.try_ h)) (by decide) (Nat.le_of_ble_eq_true rfl) rfl rfl (by decide) (by decide) rfl dX11_cases_49 rfl (fun E D hx => ⟨rfl, Or.inr ⟨E, rfl, hx⟩⟩) (fun y_4 D_5 h => ?_)
    refine aw_aload_n (n := 53) (i := 0) dX11_cases_52 rfl rfl rfl ?_
    refine aw_getR (n := 56) (j := 13) (r := 79) hG.1 fl_RX11_83 (sF_0 hS) rfl dX11_cases_53 rfl ?_
    refine aw_iload_n (n := 57) (i := 1) dX11_cases_56 rfl rfl rfl ?_
    refine aw_cVi (M := M_X11_cases) (n := 60) (As := [.int v1]) (rest := []) hG.1 lk_RX11_303 rfl rfl (sF_79 hS) (c_X10_numberOf hG hS (h := Ok.bi h)) (by decide) (Nat.le_of_ble_eq_true rfl) (by decide) (by decide) dX11_cases_57 rfl (fun y_6 D_7 h => ?_)
    exact aw_iret rfl (by decide) (by decide) dX11_cases_60 ⟨rfl, Or.inl ⟨_, rfl, (Ok.dn h :)⟩⟩
  have hJ_10 : ∀ (v1 : Int32) (t0 : Int32) (D : aD), Ok (J_X11_cases_10 v1 t0 D) (fun r => K r.1 r.2) → AW G (aRm 7 2 12) M_X11_cases fr 0 0 10 [some (.ref 0), some (.int v1)] [.int t0] shp D (aQxi shp K) := by
    intro v1 t0 D h
    unfold J_X11_cases_10 at h
    refine aw_cSxv (M := M_X11_cases) (n := 13) (As := [.int t0]) (rest := []) (kn := 1) (kn2 := 6) lk_RX11_121 rfl rfl (c_X11_need hG hS (h := Ok.try_ h)) (by decide) (Nat.le_of_ble_eq_true rfl) rfl rfl (by decide) (by decide) rfl dX11_cases_10 rfl (fun E D hx => ⟨rfl, Or.inr ⟨E, rfl, hx⟩⟩) (fun y_1 D_2 h => ?_)
    refine aw_aload_n (n := 14) (i := 0) dX11_cases_13 rfl rfl rfl ?_
    refine aw_getR (n := 17) (j := 13) (r := 79) hG.1 fl_RX11_83 (sF_0 hS) rfl dX11_cases_14 rfl ?_
    refine aw_cVv (M := M_X11_cases) (n := 20) (As := []) (rest := []) hG.1 lk_RX11_297 rfl rfl (sF_79 hS) (c_X10_collect hG hS (h := Ok.bind h)) (by decide) (Nat.le_of_ble_eq_true rfl) (by decide) (by decide) dX11_cases_17 rfl (fun D_3 h => ?_)
    refine aw_iload_n (n := 21) (i := 1) dX11_cases_20 rfl rfl rfl ?_
    refine aw_iconst (n := 22) (v := (-1)) dX11_cases_21 rfl (by decide) ?_
    refine aw_icmp_ne (n := 25) (tgt := 33) dX11_cases_22 rfl (by decide) (fun c => ?_) (fun c => ?_)
    · replace h := Ok.ift h c
      refine aw_iload_n (n := 34) (i := 1) dX11_cases_33 rfl rfl rfl ?_
      refine aw_aload_n (n := 35) (i := 0) dX11_cases_34 rfl rfl rfl ?_
      refine aw_getR (n := 38) (j := 13) (r := 79) hG.1 fl_RX11_83 (sF_0 hS) rfl dX11_cases_35 rfl ?_
      refine aw_getI (n := 41) (j := 4) hG.1 fl_RX11_300 (sF_79 hS) rfl dX11_cases_38 rfl ?_
      refine aw_icmp_ge (n := 44) (tgt := 48) dX11_cases_41 rfl (by decide) (fun c => ?_) (fun c => ?_)
      · replace h := Ok.ift h c
        refine aw_iconst (n := 49) (v := 0) dX11_cases_48 rfl (by decide) ?_
        exact aw_wid (by decide) (by decide) <| aw_le' (hJ_49 v1 0 D_3 h) ⟨rfl, ⟨rfl, trivial⟩⟩
      · replace h := Ok.iff h c
        refine aw_iconst (n := 45) (v := 1) dX11_cases_44 rfl (by decide) ?_
        refine aw_goto (tgt := 49) dX11_cases_45 (by decide) ?_
        exact aw_wid (by decide) (by decide) <| aw_le' (hJ_49 v1 1 D_3 h) ⟨rfl, ⟨rfl, trivial⟩⟩
    · replace h := Ok.iffn h c
      refine aw_aload_n (n := 26) (i := 0) dX11_cases_25 rfl rfl rfl ?_
      refine aw_getR (n := 29) (j := 13) (r := 79) hG.1 fl_RX11_83 (sF_0 hS) rfl dX11_cases_26 rfl ?_
      refine aw_getI (n := 32) (j := 4) hG.1 fl_RX11_300 (sF_79 hS) rfl dX11_cases_29 rfl ?_
      exact aw_iret rfl (by decide) (by decide) dX11_cases_32 ⟨rfl, Or.inl ⟨_, rfl, (Ok.dn h :)⟩⟩
  refine aw_iload_n (n := 1) (i := 1) dX11_cases_0 rfl rfl rfl ?_
  refine aw_iconst (n := 2) (v := (-1)) dX11_cases_1 rfl (by decide) ?_
  refine aw_icmp_lt (n := 5) (tgt := 9) dX11_cases_2 rfl (by decide) (fun c => ?_) (fun c => ?_)
  · replace h := Ok.ift h c
    refine aw_iconst (n := 10) (v := 0) dX11_cases_9 rfl (by decide) ?_
    exact aw_wid (by decide) (by decide) <| aw_le' (hJ_10 v1 0 D h) ⟨rfl, ⟨rfl, trivial⟩⟩
  · replace h := Ok.iff h c
    refine aw_iconst (n := 6) (v := 1) dX11_cases_5 rfl (by decide) ?_
    refine aw_goto (tgt := 10) dX11_cases_6 (by decide) ?_
    exact aw_wid (by decide) (by decide) <| aw_le' (hJ_10 v1 1 D h) ⟨rfl, ⟨rfl, trivial⟩⟩
theorem dX11_next_0 : decode cX11_next 0 = .ok (.iload_n 1, 1) := by decide +kernel
theorem dX11_next_1 : decode cX11_next 1 = .ok (.bipush 24, 2) := by decide +kernel
theorem dX11_next_3 : decode cX11_next 3 = .ok (.invokestatic 173, 3) := by decide +kernel
theorem dX11_next_6 : decode cX11_next 6 = .ok (.ifCond .eq 15, 3) := by decide +kernel
theorem dX11_next_9 : decode cX11_next 9 = .ok (.iload_n 2, 1) := by decide +kernel
theorem dX11_next_10 : decode cX11_next 10 = .ok (.iconst 2, 1) := by decide +kernel
theorem dX11_next_11 : decode cX11_next 11 = .ok (.invokestatic 173, 3) := by decide +kernel
theorem dX11_next_14 : decode cX11_next 14 = .ok (.ifCond .eq 7, 3) := by decide +kernel
theorem dX11_next_17 : decode cX11_next 17 = .ok (.iconst 1, 1) := by decide +kernel
theorem dX11_next_18 : decode cX11_next 18 = .ok (.goto 4, 3) := by decide +kernel
theorem dX11_next_21 : decode cX11_next 21 = .ok (.iconst 0, 1) := by decide +kernel
theorem dX11_next_22 : decode cX11_next 22 = .ok (.invokestatic 121, 3) := by decide +kernel
theorem dX11_next_25 : decode cX11_next 25 = .ok (.aload_n 0, 1) := by decide +kernel
theorem dX11_next_26 : decode cX11_next 26 = .ok (.getfield 83, 3) := by decide +kernel
theorem dX11_next_29 : decode cX11_next 29 = .ok (.invokevirtual 297, 3) := by decide +kernel
theorem dX11_next_32 : decode cX11_next 32 = .ok (.aload_n 0, 1) := by decide +kernel
theorem dX11_next_33 : decode cX11_next 33 = .ok (.getfield 20, 3) := by decide +kernel
theorem dX11_next_36 : decode cX11_next 36 = .ok (.getfield 149, 3) := by decide +kernel
theorem dX11_next_39 : decode cX11_next 39 = .ok (.ifCond .eq 13, 3) := by decide +kernel
theorem dX11_next_42 : decode cX11_next 42 = .ok (.aload_n 0, 1) := by decide +kernel
theorem dX11_next_43 : decode cX11_next 43 = .ok (.getfield 83, 3) := by decide +kernel
theorem dX11_next_46 : decode cX11_next 46 = .ok (.getfield 300, 3) := by decide +kernel
theorem dX11_next_49 : decode cX11_next 49 = .ok (.ifCond .ne 5, 3) := by decide +kernel
theorem dX11_next_52 : decode cX11_next 52 = .ok (.iconst (-1), 1) := by decide +kernel
theorem dX11_next_53 : decode cX11_next 53 = .ok (.ireturn, 1) := by decide +kernel
theorem dX11_next_54 : decode cX11_next 54 = .ok (.aload_n 0, 1) := by decide +kernel
theorem dX11_next_55 : decode cX11_next 55 = .ok (.getfield 83, 3) := by decide +kernel
theorem dX11_next_58 : decode cX11_next 58 = .ok (.iload_n 1, 1) := by decide +kernel
theorem dX11_next_59 : decode cX11_next 59 = .ok (.invokevirtual 306, 3) := by decide +kernel
theorem dX11_next_62 : decode cX11_next 62 = .ok (.istore_n 3, 1) := by decide +kernel
theorem dX11_next_63 : decode cX11_next 63 = .ok (.iload_n 2, 1) := by decide +kernel
theorem dX11_next_64 : decode cX11_next 64 = .ok (.ifCond .ne 13, 3) := by decide +kernel
theorem dX11_next_67 : decode cX11_next 67 = .ok (.aload_n 0, 1) := by decide +kernel
theorem dX11_next_68 : decode cX11_next 68 = .ok (.getfield 83, 3) := by decide +kernel
theorem dX11_next_71 : decode cX11_next 71 = .ok (.getfield 309, 3) := by decide +kernel
theorem dX11_next_74 : decode cX11_next 74 = .ok (.goto 4, 3) := by decide +kernel
theorem dX11_next_77 : decode cX11_next 77 = .ok (.iload_n 3, 1) := by decide +kernel
theorem dX11_next_78 : decode cX11_next 78 = .ok (.ireturn, 1) := by decide +kernel
def J_X11_next_22 (v1 : Int32) (v2 : Int32) (t0 : Int32) (D : aD) : Option ((String ⊕ Int32) × aD) :=
  aTry (f_X11_need t0 D) (fun y_3 D_4 => (f_X10_collect D_4).bind (fun D_5 => if gI D_5 2 5 = 0 then (some (.inr (-1), D_5)) else (if gI D_5 79 4 ≠ 0 then (aBi (f_X10_chooseGate v1 D_5) (fun y_6 D_7 => if v2 ≠ 0 then (some (.inr y_6, D_7)) else (some (.inr (gI D_7 79 5), D_7)))) else (some (.inr (-1), D_5)))))
def J_X11_next_21 (v1 : Int32) (v2 : Int32) (D : aD) : Option ((String ⊕ Int32) × aD) :=
  J_X11_next_22 v1 v2 0 D
def f_X11_next (v1 : Int32) (v2 : Int32) (D : aD) : Option ((String ⊕ Int32) × aD) :=
  aBi (f_X11_isBelow v1 24 D) (fun y_1 D_2 => if y_1 = 0 then (J_X11_next_21 v1 v2 D_2) else (aBi (f_X11_isBelow v2 2 D_2) (fun y_8 D_9 => if y_8 = 0 then (J_X11_next_21 v1 v2 D_9) else (J_X11_next_22 v1 v2 1 D_9))))
set_option maxRecDepth 100000 in
set_option maxHeartbeats 800000 in
theorem c_X11_next {G : aG} (hG : gOK G) {shp : List aSh} (hS : aShp shp) {fr : Option Nat} {v1 : Int32} {v2 : Int32} {D : aD} {K : (String ⊕ Int32) → aD → Prop} (h : Ok2 (f_X11_next v1 v2 D) K) : AC G (aRm 7 1 6) M_X11_next [.ref 0, .int v1, .int v2] fr shp D (aQxi shp K) := by
  replace h := Ok2.ok h
  unfold f_X11_next at h
  refine AC.of (al := [some (.ref 0), some (.int v1), some (.int v2), none]) (r := 1) (by decide) (Nat.le_of_ble_eq_true rfl) rfl ?_
  have hJ_22 : ∀ (v1 : Int32) (v2 : Int32) (t0 : Int32) (D : aD), Ok (J_X11_next_22 v1 v2 t0 D) (fun r => K r.1 r.2) → AW G (aRm 7 1 6) M_X11_next fr 0 0 22 [some (.ref 0), some (.int v1), some (.int v2), none] [.int t0] shp D (aQxi shp K) := by
    intro v1 v2 t0 D h
    unfold J_X11_next_22 at h
    refine aw_cSxv (M := M_X11_next) (n := 25) (As := [.int t0]) (rest := []) (kn := 1) (kn2 := 6) lk_RX11_121 rfl rfl (c_X11_need hG hS (h := Ok.try_ h)) (by decide) (Nat.le_of_ble_eq_true rfl) rfl rfl (by decide) (by decide) rfl dX11_next_22 rfl (fun E D hx => ⟨rfl, Or.inr ⟨E, rfl, hx⟩⟩) (fun y_3 D_4 h => ?_)
    refine aw_aload_n (n := 26) (i := 0) dX11_next_25 rfl rfl rfl ?_
    refine aw_getR (n := 29) (j := 13) (r := 79) hG.1 fl_RX11_83 (sF_0 hS) rfl dX11_next_26 rfl ?_
    refine aw_cVv (M := M_X11_next) (n := 32) (As := []) (rest := []) hG.1 lk_RX11_297 rfl rfl (sF_79 hS) (c_X10_collect hG hS (h := Ok.bind h)) (by decide) (Nat.le_of_ble_eq_true rfl) (by decide) (by decide) dX11_next_29 rfl (fun D_5 h => ?_)
    refine aw_aload_n (n := 33) (i := 0) dX11_next_32 rfl rfl rfl ?_
    refine aw_getR (n := 36) (j := 3) (r := 2) hG.1 fl_RX11_20 (sF_0 hS) rfl dX11_next_33 rfl ?_
    refine aw_getI (n := 39) (j := 5) hG.1 fl_RX11_149 (sF_2 hS) rfl dX11_next_36 rfl ?_
    refine aw_if_eq (n := 42) (tgt := 52) dX11_next_39 rfl (by decide) (fun c => ?_) (fun c => ?_)
    · replace h := Ok.ift h c
      refine aw_iconst (n := 53) (v := (-1)) dX11_next_52 rfl (by decide) ?_
      exact aw_iret rfl (by decide) (by decide) dX11_next_53 ⟨rfl, Or.inl ⟨_, rfl, (Ok.dn h :)⟩⟩
    · replace h := Ok.iff h c
      refine aw_aload_n (n := 43) (i := 0) dX11_next_42 rfl rfl rfl ?_
      refine aw_getR (n := 46) (j := 13) (r := 79) hG.1 fl_RX11_83 (sF_0 hS) rfl dX11_next_43 rfl ?_
      refine aw_getI (n := 49) (j := 4) hG.1 fl_RX11_300 (sF_79 hS) rfl dX11_next_46 rfl ?_
      refine aw_if_ne (n := 52) (tgt := 54) dX11_next_49 rfl (by decide) (fun c => ?_) (fun c => ?_)
      · replace h := Ok.ift h c
        refine aw_aload_n (n := 55) (i := 0) dX11_next_54 rfl rfl rfl ?_
        refine aw_getR (n := 58) (j := 13) (r := 79) hG.1 fl_RX11_83 (sF_0 hS) rfl dX11_next_55 rfl ?_
        refine aw_iload_n (n := 59) (i := 1) dX11_next_58 rfl rfl rfl ?_
        refine aw_cVi (M := M_X11_next) (n := 62) (As := [.int v1]) (rest := []) hG.1 lk_RX11_306 rfl rfl (sF_79 hS) (c_X10_chooseGate hG hS (h := Ok.bi h)) (by decide) (Nat.le_of_ble_eq_true rfl) (by decide) (by decide) dX11_next_59 rfl (fun y_6 D_7 h => ?_)
        refine aw_istore_n (n := 63) (i := 3) (al' := [some (.ref 0), some (.int v1), some (.int v2), some (.int y_6)]) dX11_next_62 rfl rfl rfl (by decide) rfl ?_
        refine aw_iload_n (n := 64) (i := 2) dX11_next_63 rfl rfl rfl ?_
        refine aw_if_ne (n := 67) (tgt := 77) dX11_next_64 rfl (by decide) (fun c => ?_) (fun c => ?_)
        · replace h := Ok.ift h c
          refine aw_iload_n (n := 78) (i := 3) dX11_next_77 rfl rfl rfl ?_
          exact aw_iret rfl (by decide) (by decide) dX11_next_78 ⟨rfl, Or.inl ⟨_, rfl, (Ok.dn h :)⟩⟩
        · replace h := Ok.iffn h c
          refine aw_aload_n (n := 68) (i := 0) dX11_next_67 rfl rfl rfl ?_
          refine aw_getR (n := 71) (j := 13) (r := 79) hG.1 fl_RX11_83 (sF_0 hS) rfl dX11_next_68 rfl ?_
          refine aw_getI (n := 74) (j := 5) hG.1 fl_RX11_309 (sF_79 hS) rfl dX11_next_71 rfl ?_
          refine aw_goto (tgt := 78) dX11_next_74 (by decide) ?_
          exact aw_iret rfl (by decide) (by decide) dX11_next_78 ⟨rfl, Or.inl ⟨_, rfl, (Ok.dn h :)⟩⟩
      · replace h := Ok.iffn h c
        refine aw_iconst (n := 53) (v := (-1)) dX11_next_52 rfl (by decide) ?_
        exact aw_iret rfl (by decide) (by decide) dX11_next_53 ⟨rfl, Or.inl ⟨_, rfl, (Ok.dn h :)⟩⟩
  have hJ_21 : ∀ (v1 : Int32) (v2 : Int32) (D : aD), Ok (J_X11_next_21 v1 v2 D) (fun r => K r.1 r.2) → AW G (aRm 7 1 6) M_X11_next fr 0 0 21 [some (.ref 0), some (.int v1), some (.int v2), none] [] shp D (aQxi shp K) := by
    intro v1 v2 D h
    unfold J_X11_next_21 at h
    refine aw_iconst (n := 22) (v := 0) dX11_next_21 rfl (by decide) ?_
    exact aw_wid (by decide) (by decide) <| aw_le' (hJ_22 v1 v2 0 D h) ⟨rfl, ⟨rfl, ⟨rfl, trivial⟩⟩⟩
  refine aw_iload_n (n := 1) (i := 1) dX11_next_0 rfl rfl rfl ?_
  refine aw_bipush (n := 3) (v := 24) dX11_next_1 rfl (by decide) ?_
  refine aw_cSi (M := M_X11_next) (n := 6) (As := [.int v1, .int 24]) (rest := []) lk_RX11_173 rfl rfl (c_X11_isBelow hG hS (h := Ok.bi h)) (by decide) (Nat.le_of_ble_eq_true rfl) (by decide) (by decide) dX11_next_3 rfl (fun y_1 D_2 h => ?_)
  refine aw_if_eq (n := 9) (tgt := 21) dX11_next_6 rfl (by decide) (fun c => ?_) (fun c => ?_)
  · replace h := Ok.ift h c
    exact aw_wid (by decide) (by decide) <| aw_le' (hJ_21 v1 v2 D_2 h) ⟨rfl, ⟨rfl, ⟨rfl, trivial⟩⟩⟩
  · replace h := Ok.iff h c
    refine aw_iload_n (n := 10) (i := 2) dX11_next_9 rfl rfl rfl ?_
    refine aw_iconst (n := 11) (v := 2) dX11_next_10 rfl (by decide) ?_
    refine aw_cSi (M := M_X11_next) (n := 14) (As := [.int v2, .int 2]) (rest := []) lk_RX11_173 rfl rfl (c_X11_isBelow hG hS (h := Ok.bi h)) (by decide) (Nat.le_of_ble_eq_true rfl) (by decide) (by decide) dX11_next_11 rfl (fun y_8 D_9 h => ?_)
    refine aw_if_eq (n := 17) (tgt := 21) dX11_next_14 rfl (by decide) (fun c => ?_) (fun c => ?_)
    · replace h := Ok.ift h c
      exact aw_wid (by decide) (by decide) <| aw_le' (hJ_21 v1 v2 D_9 h) ⟨rfl, ⟨rfl, ⟨rfl, trivial⟩⟩⟩
    · replace h := Ok.iff h c
      refine aw_iconst (n := 18) (v := 1) dX11_next_17 rfl (by decide) ?_
      refine aw_goto (tgt := 22) dX11_next_18 (by decide) ?_
      exact aw_wid (by decide) (by decide) <| aw_le' (hJ_22 v1 v2 1 D_9 h) ⟨rfl, ⟨rfl, ⟨rfl, trivial⟩⟩⟩
theorem dX11_days_0 : decode cX11_days 0 = .ok (.aload_n 0, 1) := by decide +kernel
theorem dX11_days_1 : decode cX11_days 1 = .ok (.iload_n 1, 1) := by decide +kernel
theorem dX11_days_2 : decode cX11_days 2 = .ok (.invokevirtual 223, 3) := by decide +kernel
theorem dX11_days_5 : decode cX11_days 5 = .ok (.iload_n 3, 1) := by decide +kernel
theorem dX11_days_6 : decode cX11_days 6 = .ok (.ifCond .lt 9, 3) := by decide +kernel
theorem dX11_days_9 : decode cX11_days 9 = .ok (.iload_n 3, 1) := by decide +kernel
theorem dX11_days_10 : decode cX11_days 10 = .ok (.bipush 100, 2) := by decide +kernel
theorem dX11_days_12 : decode cX11_days 12 = .ok (.if_icmp .le 14, 3) := by decide +kernel
theorem dX11_days_15 : decode cX11_days 15 = .ok (.new 94, 3) := by decide +kernel
theorem dX11_days_18 : decode cX11_days 18 = .ok (.dup, 1) := by decide +kernel
theorem dX11_days_19 : decode cX11_days 19 = .ok (.ldc_w 312, 3) := by decide +kernel
theorem dX11_days_22 : decode cX11_days 22 = .ok (.invokespecial 98, 3) := by decide +kernel
theorem dX11_days_25 : decode cX11_days 25 = .ok (.athrow, 1) := by decide +kernel
theorem dX11_days_26 : decode cX11_days 26 = .ok (.aload_n 0, 1) := by decide +kernel
theorem dX11_days_27 : decode cX11_days 27 = .ok (.getfield 60, 3) := by decide +kernel
theorem dX11_days_30 : decode cX11_days 30 = .ok (.invokevirtual 254, 3) := by decide +kernel
theorem dX11_days_33 : decode cX11_days 33 = .ok (.aload_n 0, 1) := by decide +kernel
theorem dX11_days_34 : decode cX11_days 34 = .ok (.getfield 60, 3) := by decide +kernel
theorem dX11_days_37 : decode cX11_days 37 = .ok (.iload_n 1, 1) := by decide +kernel
theorem dX11_days_38 : decode cX11_days 38 = .ok (.iload_n 2, 1) := by decide +kernel
theorem dX11_days_39 : decode cX11_days 39 = .ok (.iload_n 3, 1) := by decide +kernel
theorem dX11_days_40 : decode cX11_days 40 = .ok (.invokevirtual 314, 3) := by decide +kernel
theorem dX11_days_43 : decode cX11_days 43 = .ok (.ireturn, 1) := by decide +kernel
def J_X11_days_15 (D : aD) : Option ((String ⊕ Int32) × aD) :=
  some (.inl "java/lang/IllegalArgumentException", D)
def f_X11_days (v1 : Int32) (v2 : Int32) (v3 : Int32) (D : aD) : Option ((String ⊕ Int32) × aD) :=
  aTry (f_X11_needGarden v1 D) (fun y_1 D_2 => if v3 < 0 then (J_X11_days_15 D_2) else (if v3 ≤ 100 then ((f_X1_prepareAll D_2).bind (fun D_3 => aBi (f_X1_daysWon v1 v2 v3 D_3) (fun y_4 D_5 => some (.inr y_4, D_5)))) else (J_X11_days_15 D_2)))
set_option maxRecDepth 100000 in
set_option maxHeartbeats 800000 in
theorem c_X11_days {G : aG} (hG : gOK G) {shp : List aSh} (hS : aShp shp) {fr : Option Nat} {v1 : Int32} {v2 : Int32} {v3 : Int32} {D : aD} {K : (String ⊕ Int32) → aD → Prop} (h : Ok2 (f_X11_days v1 v2 v3 D) K) : AC G (aRm 8 2 12) M_X11_days [.ref 0, .int v1, .int v2, .int v3] fr shp D (aQxi shp K) := by
  replace h := Ok2.ok h
  unfold f_X11_days at h
  refine AC.of (al := [some (.ref 0), some (.int v1), some (.int v2), some (.int v3)]) (r := 0) (by decide) (Nat.le_of_ble_eq_true rfl) rfl ?_
  have hJ_15 : ∀ (D : aD), Ok (J_X11_days_15 D) (fun r => K r.1 r.2) → AW G (aRm 8 2 12) M_X11_days fr 1 6 15 [none, none, none, none] [] shp D (aQxi shp K) := by
    intro D h
    unfold J_X11_days_15 at h
    exact aw_throwW (M := M_X11_days) (sk := 10000 + 16) (names := ["java/lang/RuntimeException", "java/lang/Exception"]) hG.2.2.2.1 (by decide) (by decide) kx_RX11_98.1 kx_RX11_98.2.1 (gS_RX11_312 hG) kx_RX11_98.2.2 dX11_days_15 dX11_days_18 dX11_days_19 dX11_days_22 dX11_days_25 (by decide) (by decide) (by decide) (by decide) ⟨rfl, Or.inr ⟨_, rfl, (Ok.dn h :)⟩⟩
  refine aw_aload_n (n := 1) (i := 0) dX11_days_0 rfl rfl rfl ?_
  refine aw_iload_n (n := 2) (i := 1) dX11_days_1 rfl rfl rfl ?_
  refine aw_cVxv (M := M_X11_days) (n := 5) (As := [.int v1]) (rest := []) (kn := 1) (kn2 := 6) hG.1 lk_RX11_223 rfl rfl (sF_0 hS) (c_X11_needGarden hG hS (h := Ok.try_ h)) (by decide) (Nat.le_of_ble_eq_true rfl) rfl rfl (by decide) (by decide) rfl dX11_days_2 rfl (fun E D hx => ⟨rfl, Or.inr ⟨E, rfl, hx⟩⟩) (fun y_1 D_2 h => ?_)
  refine aw_iload_n (n := 6) (i := 3) dX11_days_5 rfl rfl rfl ?_
  refine aw_if_lt (n := 9) (tgt := 15) dX11_days_6 rfl (by decide) (fun c => ?_) (fun c => ?_)
  · replace h := Ok.ift h c
    exact aw_wid (by decide) (by decide) <| aw_le' (hJ_15 D_2 h) trivial
  · replace h := Ok.iff h c
    refine aw_iload_n (n := 10) (i := 3) dX11_days_9 rfl rfl rfl ?_
    refine aw_bipush (n := 12) (v := 100) dX11_days_10 rfl (by decide) ?_
    refine aw_icmp_le (n := 15) (tgt := 26) dX11_days_12 rfl (by decide) (fun c => ?_) (fun c => ?_)
    · replace h := Ok.ift h c
      refine aw_aload_n (n := 27) (i := 0) dX11_days_26 rfl rfl rfl ?_
      refine aw_getR (n := 30) (j := 10) (r := 60) hG.1 fl_RX11_60 (sF_0 hS) rfl dX11_days_27 rfl ?_
      refine aw_cVv (M := M_X11_days) (n := 33) (As := []) (rest := []) hG.1 lk_RX11_254 rfl rfl (sF_60 hS) (c_X1_prepareAll hG hS (h := Ok.bind h)) (by decide) (Nat.le_of_ble_eq_true rfl) (by decide) (by decide) dX11_days_30 rfl (fun D_3 h => ?_)
      refine aw_aload_n (n := 34) (i := 0) dX11_days_33 rfl rfl rfl ?_
      refine aw_getR (n := 37) (j := 10) (r := 60) hG.1 fl_RX11_60 (sF_0 hS) rfl dX11_days_34 rfl ?_
      refine aw_iload_n (n := 38) (i := 1) dX11_days_37 rfl rfl rfl ?_
      refine aw_iload_n (n := 39) (i := 2) dX11_days_38 rfl rfl rfl ?_
      refine aw_iload_n (n := 40) (i := 3) dX11_days_39 rfl rfl rfl ?_
      refine aw_cVi (M := M_X11_days) (n := 43) (As := [.int v1, .int v2, .int v3]) (rest := []) hG.1 lk_RX11_314 rfl rfl (sF_60 hS) (c_X1_daysWon hG hS (h := Ok.bi h)) (by decide) (Nat.le_of_ble_eq_true rfl) (by decide) (by decide) dX11_days_40 rfl (fun y_4 D_5 h => ?_)
      exact aw_iret rfl (by decide) (by decide) dX11_days_43 ⟨rfl, Or.inl ⟨_, rfl, (Ok.dn h :)⟩⟩
    · replace h := Ok.iff h c
      exact aw_wid (by decide) (by decide) <| aw_le' (hJ_15 D_2 h) trivial
theorem dX11_image_0 : decode cX11_image 0 = .ok (.aload_n 0, 1) := by decide +kernel
theorem dX11_image_1 : decode cX11_image 1 = .ok (.getfield 34, 3) := by decide +kernel
theorem dX11_image_4 : decode cX11_image 4 = .ok (.aload_n 0, 1) := by decide +kernel
theorem dX11_image_5 : decode cX11_image 5 = .ok (.getfield 30, 3) := by decide +kernel
theorem dX11_image_8 : decode cX11_image 8 = .ok (.invokevirtual 318, 3) := by decide +kernel
theorem dX11_image_11 : decode cX11_image 11 = .ok (.aload_n 0, 1) := by decide +kernel
theorem dX11_image_12 : decode cX11_image 12 = .ok (.iconst 1, 1) := by decide +kernel
theorem dX11_image_13 : decode cX11_image 13 = .ok (.putfield 117, 3) := by decide +kernel
theorem dX11_image_16 : decode cX11_image 16 = .ok (.return_, 1) := by decide +kernel
def f_X11_image (D : aD) : Option (aD) :=
  (f_X9_copyFrom_48_40 D).bind (fun D_1 => aLet (pI D_1 0 7 1) (fun D_2 => some D_2))
set_option maxRecDepth 100000 in
set_option maxHeartbeats 800000 in
theorem c_X11_image {G : aG} (hG : gOK G) {shp : List aSh} (hS : aShp shp) {fr : Option Nat} {D : aD} {K : aD → Prop} (h : Ok (f_X11_image D) K) : AC G (aRm 2 0 0) M_X11_image [.ref 0] fr shp D (aQv shp K) := by
  unfold f_X11_image at h
  refine AC.of (al := [some (.ref 0)]) (r := 0) (by decide) (Nat.le_of_ble_eq_true rfl) rfl ?_
  refine aw_aload_n (n := 1) (i := 0) dX11_image_0 rfl rfl rfl ?_
  refine aw_getR (n := 4) (j := 6) (r := 48) hG.1 fl_RX11_34 (sF_0 hS) rfl dX11_image_1 rfl ?_
  refine aw_aload_n (n := 5) (i := 0) dX11_image_4 rfl rfl rfl ?_
  refine aw_getR (n := 8) (j := 5) (r := 40) hG.1 fl_RX11_30 (sF_0 hS) rfl dX11_image_5 rfl ?_
  refine aw_cVv (M := M_X11_image) (n := 11) (As := [.ref 40]) (rest := []) hG.1 lk_RX11_318 rfl rfl (sF_48 hS) (c_X9_copyFrom_48_40 hG hS (h := Ok.bind h)) (by decide) (Nat.le_of_ble_eq_true rfl) (by decide) (by decide) dX11_image_8 rfl (fun D_1 h => ?_)
  refine aw_aload_n (n := 12) (i := 0) dX11_image_11 rfl rfl rfl ?_
  refine aw_iconst (n := 13) (v := 1) dX11_image_12 rfl (by decide) ?_
  obtain ⟨D_2, e_D_2, h⟩ := Ok.let_ h
  refine aw_putZ (n := 16) (j := 7) hG.1 fl_RX11_117 (by decide) (sF_0 hS) rfl e_D_2 dX11_image_13 rfl ?_
  exact aw_vret rfl (by decide) (by decide) dX11_image_16 ⟨rfl, rfl, (Ok.dn h :)⟩
theorem dX11_restore_0 : decode cX11_restore 0 = .ok (.aload_n 0, 1) := by decide +kernel
theorem dX11_restore_1 : decode cX11_restore 1 = .ok (.getfield 117, 3) := by decide +kernel
theorem dX11_restore_4 : decode cX11_restore 4 = .ok (.ifCond .ne 5, 3) := by decide +kernel
theorem dX11_restore_7 : decode cX11_restore 7 = .ok (.iconst 0, 1) := by decide +kernel
theorem dX11_restore_8 : decode cX11_restore 8 = .ok (.ireturn, 1) := by decide +kernel
theorem dX11_restore_9 : decode cX11_restore 9 = .ok (.aload_n 0, 1) := by decide +kernel
theorem dX11_restore_10 : decode cX11_restore 10 = .ok (.getfield 30, 3) := by decide +kernel
theorem dX11_restore_13 : decode cX11_restore 13 = .ok (.aload_n 0, 1) := by decide +kernel
theorem dX11_restore_14 : decode cX11_restore 14 = .ok (.getfield 34, 3) := by decide +kernel
theorem dX11_restore_17 : decode cX11_restore 17 = .ok (.invokevirtual 318, 3) := by decide +kernel
theorem dX11_restore_20 : decode cX11_restore 20 = .ok (.iconst 1, 1) := by decide +kernel
theorem dX11_restore_21 : decode cX11_restore 21 = .ok (.ireturn, 1) := by decide +kernel
def f_X11_restore (D : aD) : Option (Int32 × aD) :=
  if gI D 0 7 ≠ 0 then ((f_X9_copyFrom_40_48 D).bind (fun D_1 => some (1, D_1))) else (some (0, D))
set_option maxRecDepth 100000 in
set_option maxHeartbeats 800000 in
theorem c_X11_restore {G : aG} (hG : gOK G) {shp : List aSh} (hS : aShp shp) {fr : Option Nat} {D : aD} {K : Int32 → aD → Prop} (h : Ok2 (f_X11_restore D) K) : AC G (aRm 2 0 0) M_X11_restore [.ref 0] fr shp D (aQi shp K) := by
  replace h := Ok2.ok h
  unfold f_X11_restore at h
  refine AC.of (al := [some (.ref 0)]) (r := 0) (by decide) (Nat.le_of_ble_eq_true rfl) rfl ?_
  refine aw_aload_n (n := 1) (i := 0) dX11_restore_0 rfl rfl rfl ?_
  refine aw_getI (n := 4) (j := 7) hG.1 fl_RX11_117 (sF_0 hS) rfl dX11_restore_1 rfl ?_
  refine aw_if_ne (n := 7) (tgt := 9) dX11_restore_4 rfl (by decide) (fun c => ?_) (fun c => ?_)
  · replace h := Ok.ift h c
    refine aw_aload_n (n := 10) (i := 0) dX11_restore_9 rfl rfl rfl ?_
    refine aw_getR (n := 13) (j := 5) (r := 40) hG.1 fl_RX11_30 (sF_0 hS) rfl dX11_restore_10 rfl ?_
    refine aw_aload_n (n := 14) (i := 0) dX11_restore_13 rfl rfl rfl ?_
    refine aw_getR (n := 17) (j := 6) (r := 48) hG.1 fl_RX11_34 (sF_0 hS) rfl dX11_restore_14 rfl ?_
    refine aw_cVv (M := M_X11_restore) (n := 20) (As := [.ref 48]) (rest := []) hG.1 lk_RX11_318 rfl rfl (sF_40 hS) (c_X9_copyFrom_40_48 hG hS (h := Ok.bind h)) (by decide) (Nat.le_of_ble_eq_true rfl) (by decide) (by decide) dX11_restore_17 rfl (fun D_1 h => ?_)
    refine aw_iconst (n := 21) (v := 1) dX11_restore_20 rfl (by decide) ?_
    exact aw_zret rfl (by decide) (by decide) (by decide) dX11_restore_21 ⟨_, rfl, rfl, (Ok.dn h :)⟩
  · replace h := Ok.iffn h c
    refine aw_iconst (n := 8) (v := 0) dX11_restore_7 rfl (by decide) ?_
    exact aw_zret rfl (by decide) (by decide) (by decide) dX11_restore_8 ⟨_, rfl, rfl, (Ok.dn h :)⟩
