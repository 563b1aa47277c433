theorem dX4_clearTaken_0 : decode cX4_clearTaken 0 = .ok (.iconst 0, 1) := by decide +kernel
theorem dX4_clearTaken_1 : decode cX4_clearTaken 1 = .ok (.istore_n 1, 1) := by decide +kernel
theorem dX4_clearTaken_2 : decode cX4_clearTaken 2 = .ok (.iload_n 1, 1) := by decide +kernel
theorem dX4_clearTaken_3 : decode cX4_clearTaken 3 = .ok (.bipush 64, 2) := by decide +kernel
theorem dX4_clearTaken_5 : decode cX4_clearTaken 5 = .ok (.if_icmp .ge 16, 3) := by decide +kernel
theorem dX4_clearTaken_8 : decode cX4_clearTaken 8 = .ok (.aload_n 0, 1) := by decide +kernel
theorem dX4_clearTaken_9 : decode cX4_clearTaken 9 = .ok (.getfield 18, 3) := by decide +kernel
theorem dX4_clearTaken_12 : decode cX4_clearTaken 12 = .ok (.iload_n 1, 1) := by decide +kernel
theorem dX4_clearTaken_13 : decode cX4_clearTaken 13 = .ok (.iconst 0, 1) := by decide +kernel
theorem dX4_clearTaken_14 : decode cX4_clearTaken 14 = .ok (.bastore, 1) := by decide +kernel
theorem dX4_clearTaken_15 : decode cX4_clearTaken 15 = .ok (.iinc 1 1, 3) := by decide +kernel
theorem dX4_clearTaken_18 : decode cX4_clearTaken 18 = .ok (.goto (-16), 3) := by decide +kernel
theorem dX4_clearTaken_21 : decode cX4_clearTaken 21 = .ok (.return_, 1) := by decide +kernel
def J_X4_clearTaken_3_21 (D : aD) : Option (aD) :=
  some D
def B_X4_clearTaken_3_2 (v1 : Int32) (D : aD) : Option ((Int32 × aD) ⊕ ((aD))) :=
  if 64 ≤ v1 then (some (.inr D)) else (aGd (aIn v1 64) (aLet (pI D 6 v1.toNatClampNeg 0) (fun D_2 => aLet (v1 + 1) (fun v1_3 => some (.inl (v1_3, D_2))))))
def J_X4_clearTaken_3_2 (v1 : Int32) (D : aD) : Option (aD) :=
  (aLp (fun s => B_X4_clearTaken_3_2 s.1 s.2) (v1, D)).bind (fun r => J_X4_clearTaken_3_21 r)
def f_X4_clearTaken_3 (D : aD) : Option (aD) :=
  J_X4_clearTaken_3_2 0 D
set_option maxRecDepth 100000 in
set_option maxHeartbeats 800000 in
theorem c_X4_clearTaken_3 {G : aG} (hG : gOK G) {shp : List aSh} {fr : Option Nat} {D : aD} {K : aD → Prop} (h : Ok (f_X4_clearTaken_3 D) K) (hs_3 : shp[3]? = some (.inr (4, [none, none, some (some 4), some (some 5), some (some 6)]))) (hs_6 : shp[6]? = some (.inl (3, 64, []))) : AC G (aRm 1 0 0) M_X4_clearTaken [.ref 3] fr shp D (aQv shp K) := by
  unfold f_X4_clearTaken_3 at h
  refine AC.of (al := [some (.ref 3), none]) (r := 1) (by decide) (Nat.le_of_ble_eq_true rfl) rfl ?_
  have hJ_21 : ∀ (D : aD), Ok (J_X4_clearTaken_3_21 D) K → AW G (aRm 1 0 0) M_X4_clearTaken fr 0 0 21 [none, none] [] shp D (aQv shp K) := by
    intro D h
    unfold J_X4_clearTaken_3_21 at h
    exact aw_vret rfl (by decide) (by decide) dX4_clearTaken_21 ⟨rfl, rfl, (Ok.dn h :)⟩
  have hJ_2 : ∀ (v1 : Int32) (D : aD), Ok (J_X4_clearTaken_3_2 v1 D) K → AW G (aRm 1 0 0) M_X4_clearTaken fr 0 0 2 [some (.ref 3), some (.int v1)] [] shp D (aQv shp K) := by
    intro v1 D h
    unfold J_X4_clearTaken_3_2 at h
    refine Ok.lp (P := fun s => AW G (aRm 1 0 0) M_X4_clearTaken fr 0 0 2 [some (.ref 3), some (.int (s.1))] [] shp s.2 (aQv shp K)) (fun s Kb2 hL2 hR2 h => ?_) (v1, D) (Ok.bind h)
    obtain ⟨v1, D⟩ := s
    replace h : Ok (B_X4_clearTaken_3_2 v1 D) Kb2 := h
    unfold B_X4_clearTaken_3_2 at h
    refine aw_iload_n (n := 3) (i := 1) dX4_clearTaken_2 rfl rfl rfl ?_
    refine aw_bipush (n := 5) (v := 64) dX4_clearTaken_3 rfl (by decide) ?_
    refine aw_icmp_ge (n := 8) (tgt := 21) dX4_clearTaken_5 rfl (by decide) (fun c => ?_) (fun c => ?_)
    · replace h := Ok.ift h c
      exact aw_le' (hJ_21 D (hR2 D (Ok.dn h :))) trivial
    · replace h := Ok.iff h c
      refine aw_aload_n (n := 9) (i := 0) dX4_clearTaken_8 rfl rfl rfl ?_
      refine aw_getR (n := 12) (j := 4) (r := 6) hG.1 fl_RX4_18 hs_3 rfl dX4_clearTaken_9 rfl ?_
      refine aw_iload_n (n := 13) (i := 1) dX4_clearTaken_12 rfl rfl rfl ?_
      refine aw_iconst (n := 14) (v := 0) dX4_clearTaken_13 rfl (by decide) ?_
      obtain ⟨g_1, h⟩ := Ok.gd h
      obtain ⟨D_2, e_D_2, h⟩ := Ok.let_ h
      refine aw_zastore (n := 15) hG.1 (by decide) hs_6 (aIn_in g_1) e_D_2 dX4_clearTaken_14 rfl ?_
      obtain ⟨v1_3, e_v1_3, h⟩ := Ok.let_ h
      refine aw_iinc (n := 18) (al' := [some (.ref 3), some (.int v1_3)]) dX4_clearTaken_15 rfl rfl e_v1_3 (by decide) rfl ?_
      refine aw_goto (tgt := 2) dX4_clearTaken_18 (by decide) ?_
      exact aw_le' (hL2 (v1_3, D_2) (Ok.dn h :)) ⟨rfl, ⟨rfl, trivial⟩⟩
  refine aw_iconst (n := 1) (v := 0) dX4_clearTaken_0 rfl (by decide) ?_
  refine aw_istore_n (n := 2) (i := 1) (al' := [some (.ref 3), some (.int 0)]) dX4_clearTaken_1 rfl rfl rfl (by decide) rfl ?_
  exact aw_le' (hJ_2 0 D h) ⟨rfl, ⟨rfl, trivial⟩⟩
theorem dX4_lay_0 : decode cX4_lay 0 = .ok (.aload_n 0, 1) := by decide +kernel
theorem dX4_lay_1 : decode cX4_lay 1 = .ok (.iload_n 1, 1) := by decide +kernel
theorem dX4_lay_2 : decode cX4_lay 2 = .ok (.putfield 22, 3) := by decide +kernel
theorem dX4_lay_5 : decode cX4_lay 5 = .ok (.aload_n 0, 1) := by decide +kernel
theorem dX4_lay_6 : decode cX4_lay 6 = .ok (.iload_n 2, 1) := by decide +kernel
theorem dX4_lay_7 : decode cX4_lay 7 = .ok (.putfield 26, 3) := by decide +kernel
theorem dX4_lay_10 : decode cX4_lay 10 = .ok (.iconst 0, 1) := by decide +kernel
theorem dX4_lay_11 : decode cX4_lay 11 = .ok (.istore_n 3, 1) := by decide +kernel
theorem dX4_lay_12 : decode cX4_lay 12 = .ok (.iload_n 3, 1) := by decide +kernel
theorem dX4_lay_13 : decode cX4_lay 13 = .ok (.iload_n 2, 1) := by decide +kernel
theorem dX4_lay_14 : decode cX4_lay 14 = .ok (.if_icmp .ge 62, 3) := by decide +kernel
theorem dX4_lay_17 : decode cX4_lay 17 = .ok (.iload_n 3, 1) := by decide +kernel
theorem dX4_lay_18 : decode cX4_lay 18 = .ok (.bipush 8, 2) := by decide +kernel
theorem dX4_lay_20 : decode cX4_lay 20 = .ok (.if_icmp .ge 56, 3) := by decide +kernel
theorem dX4_lay_23 : decode cX4_lay 23 = .ok (.iconst 0, 1) := by decide +kernel
theorem dX4_lay_24 : decode cX4_lay 24 = .ok (.istore 4, 2) := by decide +kernel
theorem dX4_lay_26 : decode cX4_lay 26 = .ok (.iload 4, 2) := by decide +kernel
theorem dX4_lay_28 : decode cX4_lay 28 = .ok (.iload_n 1, 1) := by decide +kernel
theorem dX4_lay_29 : decode cX4_lay 29 = .ok (.if_icmp .ge 41, 3) := by decide +kernel
theorem dX4_lay_32 : decode cX4_lay 32 = .ok (.iload 4, 2) := by decide +kernel
theorem dX4_lay_34 : decode cX4_lay 34 = .ok (.bipush 8, 2) := by decide +kernel
theorem dX4_lay_36 : decode cX4_lay 36 = .ok (.if_icmp .ge 34, 3) := by decide +kernel
theorem dX4_lay_39 : decode cX4_lay 39 = .ok (.aload_n 0, 1) := by decide +kernel
theorem dX4_lay_40 : decode cX4_lay 40 = .ok (.getfield 9, 3) := by decide +kernel
theorem dX4_lay_43 : decode cX4_lay 43 = .ok (.iload_n 3, 1) := by decide +kernel
theorem dX4_lay_44 : decode cX4_lay 44 = .ok (.iload_n 1, 1) := by decide +kernel
theorem dX4_lay_45 : decode cX4_lay 45 = .ok (.imul, 1) := by decide +kernel
theorem dX4_lay_46 : decode cX4_lay 46 = .ok (.iload 4, 2) := by decide +kernel
theorem dX4_lay_48 : decode cX4_lay 48 = .ok (.iadd, 1) := by decide +kernel
theorem dX4_lay_49 : decode cX4_lay 49 = .ok (.iload 4, 2) := by decide +kernel
theorem dX4_lay_51 : decode cX4_lay 51 = .ok (.iastore, 1) := by decide +kernel
theorem dX4_lay_52 : decode cX4_lay 52 = .ok (.aload_n 0, 1) := by decide +kernel
theorem dX4_lay_53 : decode cX4_lay 53 = .ok (.getfield 15, 3) := by decide +kernel
theorem dX4_lay_56 : decode cX4_lay 56 = .ok (.iload_n 3, 1) := by decide +kernel
theorem dX4_lay_57 : decode cX4_lay 57 = .ok (.iload_n 1, 1) := by decide +kernel
theorem dX4_lay_58 : decode cX4_lay 58 = .ok (.imul, 1) := by decide +kernel
theorem dX4_lay_59 : decode cX4_lay 59 = .ok (.iload 4, 2) := by decide +kernel
theorem dX4_lay_61 : decode cX4_lay 61 = .ok (.iadd, 1) := by decide +kernel
theorem dX4_lay_62 : decode cX4_lay 62 = .ok (.iload_n 3, 1) := by decide +kernel
theorem dX4_lay_63 : decode cX4_lay 63 = .ok (.iastore, 1) := by decide +kernel
theorem dX4_lay_64 : decode cX4_lay 64 = .ok (.iinc 4 1, 3) := by decide +kernel
theorem dX4_lay_67 : decode cX4_lay 67 = .ok (.goto (-41), 3) := by decide +kernel
theorem dX4_lay_70 : decode cX4_lay 70 = .ok (.iinc 3 1, 3) := by decide +kernel
theorem dX4_lay_73 : decode cX4_lay 73 = .ok (.goto (-61), 3) := by decide +kernel
theorem dX4_lay_76 : decode cX4_lay 76 = .ok (.aload_n 0, 1) := by decide +kernel
theorem dX4_lay_77 : decode cX4_lay 77 = .ok (.invokevirtual 29, 3) := by decide +kernel
theorem dX4_lay_80 : decode cX4_lay 80 = .ok (.return_, 1) := by decide +kernel
def J_X4_lay_3_76 (D : aD) : Option (aD) :=
  (f_X4_clearTaken_3 D).bind (fun D_3 => some D_3)
def J_X4_lay_3_70 (v1 : Int32) (v2 : Int32) (v3 : Int32) (D : aD) : Option ((Int32 × aD) ⊕ ((aD))) :=
  aLet (v3 + 1) (fun v3_4 => some (.inl (v3_4, D)))
def B_X4_lay_3_26 (v1 : Int32) (v2 : Int32) (v3 : Int32) (v4 : Int32) (D : aD) : Option ((Int32 × aD) ⊕ ((aD))) :=
  if v1 ≤ v4 then (some (.inr D)) else (if 8 ≤ v4 then (some (.inr D)) else (aGd (aIn ((v3 * v1) + v4) 64) (aLet (pI D 4 ((v3 * v1) + v4).toNatClampNeg v4) (fun D_6 => aGd (aIn ((v3 * v1) + v4) 64) (aLet (pI D_6 5 ((v3 * v1) + v4).toNatClampNeg v3) (fun D_8 => aLet (v4 + 1) (fun v4_9 => some (.inl (v4_9, D_8)))))))))
def J_X4_lay_3_26 (v1 : Int32) (v2 : Int32) (v3 : Int32) (v4 : Int32) (D : aD) : Option ((Int32 × aD) ⊕ ((aD))) :=
  (aLp (fun s => B_X4_lay_3_26 v1 v2 v3 s.1 s.2) (v4, D)).bind (fun r => J_X4_lay_3_70 v1 v2 v3 r)
def B_X4_lay_3_12 (v1 : Int32) (v2 : Int32) (v3 : Int32) (D : aD) : Option ((Int32 × aD) ⊕ ((aD))) :=
  if v2 ≤ v3 then (some (.inr D)) else (if 8 ≤ v3 then (some (.inr D)) else (J_X4_lay_3_26 v1 v2 v3 0 D))
def J_X4_lay_3_12 (v1 : Int32) (v2 : Int32) (v3 : Int32) (D : aD) : Option (aD) :=
  (aLp (fun s => B_X4_lay_3_12 v1 v2 s.1 s.2) (v3, D)).bind (fun r => J_X4_lay_3_76 r)
def f_X4_lay_3 (v1 : Int32) (v2 : Int32) (D : aD) : Option (aD) :=
  aLet (pI D 3 0 v1) (fun D_1 => aLet (pI D_1 3 1 v2) (fun D_2 => J_X4_lay_3_12 v1 v2 0 D_2))
set_option maxRecDepth 100000 in
set_option maxHeartbeats 800000 in
theorem c_X4_lay_3 {G : aG} (hG : gOK G) {shp : List aSh} {fr : Option Nat} {v1 : Int32} {v2 : Int32} {D : aD} {K : aD → Prop} (h : Ok (f_X4_lay_3 v1 v2 D) K) (hs_3 : shp[3]? = some (.inr (4, [none, none, some (some 4), some (some 5), some (some 6)]))) (hs_4 : shp[4]? = some (.inl (1, 64, []))) (hs_5 : shp[5]? = some (.inl (1, 64, []))) (hs_6 : shp[6]? = some (.inl (3, 64, []))) : AC G (aRm 2 0 0) M_X4_lay [.ref 3, .int v1, .int v2] fr shp D (aQv shp K) := by
  unfold f_X4_lay_3 at h
  refine AC.of (al := [some (.ref 3), some (.int v1), some (.int v2), none, none]) (r := 2) (by decide) (Nat.le_of_ble_eq_true rfl) rfl ?_
  have hJ_76 : ∀ (D : aD), Ok (J_X4_lay_3_76 D) K → AW G (aRm 2 0 0) M_X4_lay fr 0 0 76 [some (.ref 3), none, none, none, none] [] shp D (aQv shp K) := by
    intro D h
    unfold J_X4_lay_3_76 at h
    refine aw_aload_n (n := 77) (i := 0) dX4_lay_76 rfl rfl rfl ?_
    refine aw_cVv (M := M_X4_lay) (n := 80) (As := []) (rest := []) hG.1 lk_RX4_29 rfl rfl hs_3 (c_X4_clearTaken_3 hG (h := Ok.bind h) hs_3 hs_6) (by decide) (Nat.le_of_ble_eq_true rfl) (by decide) (by decide) dX4_lay_77 rfl (fun D_3 h => ?_)
    exact aw_vret rfl (by decide) (by decide) dX4_lay_80 ⟨rfl, rfl, (Ok.dn h :)⟩
  have hJ_12 : ∀ (v1 : Int32) (v2 : Int32) (v3 : Int32) (D : aD), Ok (J_X4_lay_3_12 v1 v2 v3 D) K → AW G (aRm 2 0 0) M_X4_lay fr 0 0 12 [some (.ref 3), some (.int v1), some (.int v2), some (.int v3), none] [] shp D (aQv shp K) := by
    intro v1 v2 v3 D h
    unfold J_X4_lay_3_12 at h
    refine Ok.lp (P := fun s => AW G (aRm 2 0 0) M_X4_lay fr 0 0 12 [some (.ref 3), some (.int v1), some (.int v2), some (.int (s.1)), none] [] shp s.2 (aQv shp K)) (fun s Kb12 hL12 hR12 h => ?_) (v3, D) (Ok.bind h)
    obtain ⟨v3, D⟩ := s
    replace h : Ok (B_X4_lay_3_12 v1 v2 v3 D) Kb12 := h
    unfold B_X4_lay_3_12 at h
    have hJ_70 : ∀ (v3 : Int32) (D : aD), Ok (J_X4_lay_3_70 v1 v2 v3 D) Kb12 → AW G (aRm 2 0 0) M_X4_lay fr 0 0 70 [some (.ref 3), some (.int v1), some (.int v2), some (.int v3), none] [] shp D (aQv shp K) := by
      intro v3 D h
      unfold J_X4_lay_3_70 at h
      obtain ⟨v3_4, e_v3_4, h⟩ := Ok.let_ h
      refine aw_iinc (n := 73) (al' := [some (.ref 3), some (.int v1), some (.int v2), some (.int v3_4), none]) dX4_lay_70 rfl rfl e_v3_4 (by decide) rfl ?_
      refine aw_goto (tgt := 12) dX4_lay_73 (by decide) ?_
      exact aw_le' (hL12 (v3_4, D) (Ok.dn h :)) ⟨rfl, ⟨rfl, ⟨rfl, ⟨rfl, trivial⟩⟩⟩⟩
    have hJ_26 : ∀ (v3 : Int32) (v4 : Int32) (D : aD), Ok (J_X4_lay_3_26 v1 v2 v3 v4 D) Kb12 → AW G (aRm 2 0 0) M_X4_lay fr 0 0 26 [some (.ref 3), some (.int v1), some (.int v2), some (.int v3), some (.int v4)] [] shp D (aQv shp K) := by
      intro v3 v4 D h
      unfold J_X4_lay_3_26 at h
      refine Ok.lp (P := fun s => AW G (aRm 2 0 0) M_X4_lay fr 0 0 26 [some (.ref 3), some (.int v1), some (.int v2), some (.int v3), some (.int (s.1))] [] shp s.2 (aQv shp K)) (fun s Kb26 hL26 hR26 h => ?_) (v4, D) (Ok.bind h)
      obtain ⟨v4, D⟩ := s
      replace h : Ok (B_X4_lay_3_26 v1 v2 v3 v4 D) Kb26 := h
      unfold B_X4_lay_3_26 at h
      refine aw_iload (n := 28) (i := 4) dX4_lay_26 rfl rfl ?_
      refine aw_iload_n (n := 29) (i := 1) dX4_lay_28 rfl rfl rfl ?_
      refine aw_icmp_ge (n := 32) (tgt := 70) dX4_lay_29 rfl (by decide) (fun c => ?_) (fun c => ?_)
      · replace h := Ok.ift h c
        exact aw_le' (hJ_70 v3 D (hR26 D (Ok.dn h :))) ⟨rfl, ⟨rfl, ⟨rfl, ⟨rfl, trivial⟩⟩⟩⟩
      · replace h := Ok.iff h c
        refine aw_iload (n := 34) (i := 4) dX4_lay_32 rfl rfl ?_
        refine aw_bipush (n := 36) (v := 8) dX4_lay_34 rfl (by decide) ?_
        refine aw_icmp_ge (n := 39) (tgt := 70) dX4_lay_36 rfl (by decide) (fun c => ?_) (fun c => ?_)
        · replace h := Ok.ift h c
          exact aw_le' (hJ_70 v3 D (hR26 D (Ok.dn h :))) ⟨rfl, ⟨rfl, ⟨rfl, ⟨rfl, trivial⟩⟩⟩⟩
        · replace h := Ok.iff h c
          refine aw_aload_n (n := 40) (i := 0) dX4_lay_39 rfl rfl rfl ?_
          refine aw_getR (n := 43) (j := 2) (r := 4) hG.1 fl_RX4_9 hs_3 rfl dX4_lay_40 rfl ?_
          refine aw_iload_n (n := 44) (i := 3) dX4_lay_43 rfl rfl rfl ?_
          refine aw_iload_n (n := 45) (i := 1) dX4_lay_44 rfl rfl rfl ?_
          refine aw_imul (n := 46) dX4_lay_45 rfl ?_
          refine aw_iload (n := 48) (i := 4) dX4_lay_46 rfl rfl ?_
          refine aw_iadd (n := 49) dX4_lay_48 rfl ?_
          refine aw_iload (n := 51) (i := 4) dX4_lay_49 rfl rfl ?_
          obtain ⟨g_5, h⟩ := Ok.gd h
          obtain ⟨D_6, e_D_6, h⟩ := Ok.let_ h
          refine aw_iastore (n := 52) hG.1 hs_4 (aIn_in g_5) e_D_6 dX4_lay_51 rfl ?_
          refine aw_aload_n (n := 53) (i := 0) dX4_lay_52 rfl rfl rfl ?_
          refine aw_getR (n := 56) (j := 3) (r := 5) hG.1 fl_RX4_15 hs_3 rfl dX4_lay_53 rfl ?_
          refine aw_iload_n (n := 57) (i := 3) dX4_lay_56 rfl rfl rfl ?_
          refine aw_iload_n (n := 58) (i := 1) dX4_lay_57 rfl rfl rfl ?_
          refine aw_imul (n := 59) dX4_lay_58 rfl ?_
          refine aw_iload (n := 61) (i := 4) dX4_lay_59 rfl rfl ?_
          refine aw_iadd (n := 62) dX4_lay_61 rfl ?_
          refine aw_iload_n (n := 63) (i := 3) dX4_lay_62 rfl rfl rfl ?_
          obtain ⟨g_7, h⟩ := Ok.gd h
          obtain ⟨D_8, e_D_8, h⟩ := Ok.let_ h
          refine aw_iastore (n := 64) hG.1 hs_5 (aIn_in g_7) e_D_8 dX4_lay_63 rfl ?_
          obtain ⟨v4_9, e_v4_9, h⟩ := Ok.let_ h
          refine aw_iinc (n := 67) (al' := [some (.ref 3), some (.int v1), some (.int v2), some (.int v3), some (.int v4_9)]) dX4_lay_64 rfl rfl e_v4_9 (by decide) rfl ?_
          refine aw_goto (tgt := 26) dX4_lay_67 (by decide) ?_
          exact aw_le' (hL26 (v4_9, D_8) (Ok.dn h :)) ⟨rfl, ⟨rfl, ⟨rfl, ⟨rfl, ⟨rfl, trivial⟩⟩⟩⟩⟩
    refine aw_iload_n (n := 13) (i := 3) dX4_lay_12 rfl rfl rfl ?_
    refine aw_iload_n (n := 14) (i := 2) dX4_lay_13 rfl rfl rfl ?_
    refine aw_icmp_ge (n := 17) (tgt := 76) dX4_lay_14 rfl (by decide) (fun c => ?_) (fun c => ?_)
    · replace h := Ok.ift h c
      exact aw_le' (hJ_76 D (hR12 D (Ok.dn h :))) ⟨rfl, trivial⟩
    · replace h := Ok.iff h c
      refine aw_iload_n (n := 18) (i := 3) dX4_lay_17 rfl rfl rfl ?_
      refine aw_bipush (n := 20) (v := 8) dX4_lay_18 rfl (by decide) ?_
      refine aw_icmp_ge (n := 23) (tgt := 76) dX4_lay_20 rfl (by decide) (fun c => ?_) (fun c => ?_)
      · replace h := Ok.ift h c
        exact aw_le' (hJ_76 D (hR12 D (Ok.dn h :))) ⟨rfl, trivial⟩
      · replace h := Ok.iff h c
        refine aw_iconst (n := 24) (v := 0) dX4_lay_23 rfl (by decide) ?_
        refine aw_istore (n := 26) (i := 4) (al' := [some (.ref 3), some (.int v1), some (.int v2), some (.int v3), some (.int 0)]) dX4_lay_24 rfl rfl (by decide) rfl ?_
        exact aw_le' (hJ_26 v3 0 D h) ⟨rfl, ⟨rfl, ⟨rfl, ⟨rfl, ⟨rfl, trivial⟩⟩⟩⟩⟩
  refine aw_aload_n (n := 1) (i := 0) dX4_lay_0 rfl rfl rfl ?_
  refine aw_iload_n (n := 2) (i := 1) dX4_lay_1 rfl rfl rfl ?_
  obtain ⟨D_1, e_D_1, h⟩ := Ok.let_ h
  refine aw_putI (n := 5) (j := 0) hG.1 fl_RX4_22 hs_3 rfl e_D_1 dX4_lay_2 rfl ?_
  refine aw_aload_n (n := 6) (i := 0) dX4_lay_5 rfl rfl rfl ?_
  refine aw_iload_n (n := 7) (i := 2) dX4_lay_6 rfl rfl rfl ?_
  obtain ⟨D_2, e_D_2, h⟩ := Ok.let_ h
  refine aw_putI (n := 10) (j := 1) hG.1 fl_RX4_26 hs_3 rfl e_D_2 dX4_lay_7 rfl ?_
  refine aw_iconst (n := 11) (v := 0) dX4_lay_10 rfl (by decide) ?_
  refine aw_istore_n (n := 12) (i := 3) (al' := [some (.ref 3), some (.int v1), some (.int v2), some (.int 0), none]) dX4_lay_11 rfl rfl rfl (by decide) rfl ?_
  exact aw_le' (hJ_12 v1 v2 0 D_2 h) ⟨rfl, ⟨rfl, ⟨rfl, ⟨rfl, trivial⟩⟩⟩⟩
theorem dJ7_fill_53178_0 : decode cJ7_fill_53178 0 = .ok (.iconst 0, 1) := by decide +kernel
theorem dJ7_fill_53178_1 : decode cJ7_fill_53178 1 = .ok (.istore_n 2, 1) := by decide +kernel
theorem dJ7_fill_53178_2 : decode cJ7_fill_53178 2 = .ok (.aload_n 0, 1) := by decide +kernel
theorem dJ7_fill_53178_3 : decode cJ7_fill_53178 3 = .ok (.arraylength, 1) := by decide +kernel
theorem dJ7_fill_53178_4 : decode cJ7_fill_53178 4 = .ok (.istore_n 3, 1) := by decide +kernel
theorem dJ7_fill_53178_5 : decode cJ7_fill_53178 5 = .ok (.iload_n 2, 1) := by decide +kernel
theorem dJ7_fill_53178_6 : decode cJ7_fill_53178 6 = .ok (.iload_n 3, 1) := by decide +kernel
theorem dJ7_fill_53178_7 : decode cJ7_fill_53178 7 = .ok (.if_icmp .ge 13, 3) := by decide +kernel
theorem dJ7_fill_53178_10 : decode cJ7_fill_53178 10 = .ok (.aload_n 0, 1) := by decide +kernel
theorem dJ7_fill_53178_11 : decode cJ7_fill_53178 11 = .ok (.iload_n 2, 1) := by decide +kernel
theorem dJ7_fill_53178_12 : decode cJ7_fill_53178 12 = .ok (.iload_n 1, 1) := by decide +kernel
theorem dJ7_fill_53178_13 : decode cJ7_fill_53178 13 = .ok (.iastore, 1) := by decide +kernel
theorem dJ7_fill_53178_14 : decode cJ7_fill_53178 14 = .ok (.iinc 2 1, 3) := by decide +kernel
theorem dJ7_fill_53178_17 : decode cJ7_fill_53178 17 = .ok (.goto (-12), 3) := by decide +kernel
theorem dJ7_fill_53178_20 : decode cJ7_fill_53178 20 = .ok (.return_, 1) := by decide +kernel
def J_J7_fill_53178_20 (a0 : Nat) (na0 : Nat) (D : aD) : Option (aD) :=
  some D
def B_J7_fill_53178_5 (a0 : Nat) (na0 : Nat) (v1 : Int32) (v3 : Int32) (v2 : Int32) (D : aD) : Option ((Int32 × aD) ⊕ ((aD))) :=
  if v3 ≤ v2 then (some (.inr D)) else (aGd (aIn v2 na0) (aLet (pI D a0 v2.toNatClampNeg v1) (fun D_3 => aLet (v2 + 1) (fun v2_4 => some (.inl (v2_4, D_3))))))
def J_J7_fill_53178_5 (a0 : Nat) (na0 : Nat) (v1 : Int32) (v2 : Int32) (v3 : Int32) (D : aD) : Option (aD) :=
  (aLp (fun s => B_J7_fill_53178_5 a0 na0 v1 v3 s.1 s.2) (v2, D)).bind (fun r => J_J7_fill_53178_20 a0 na0 r)
def f_J7_fill_53178 (a0 : Nat) (na0 : Nat) (v1 : Int32) (D : aD) : Option (aD) :=
  aLet (Int32.ofNat na0) (fun v3_1 => J_J7_fill_53178_5 a0 na0 v1 0 v3_1 D)
set_option maxRecDepth 100000 in
set_option maxHeartbeats 800000 in
theorem c_J7_fill_53178 {G : aG} (hG : gOK G) {shp : List aSh} {fr : Option Nat} {a0 : Nat} {na0 : Nat} {v1 : Int32} {D : aD} {K : aD → Prop} (h : Ok (f_J7_fill_53178 a0 na0 v1 D) K) (ha0 : shp[a0]? = some (.inl (1, na0, []))) : AC G (aRm 1 0 0) M_J7_fill_53178 [.ref a0, .int v1] fr shp D (aQv shp K) := by
  unfold f_J7_fill_53178 at h
  refine AC.of (al := [some (.ref a0), some (.int v1), none, none]) (r := 2) (by decide) (Nat.le_of_ble_eq_true rfl) rfl ?_
  have hJ_20 : ∀ (D : aD), Ok (J_J7_fill_53178_20 a0 na0 D) K → AW G (aRm 1 0 0) M_J7_fill_53178 fr 0 0 20 [none, none, none, none] [] shp D (aQv shp K) := by
    intro D h
    unfold J_J7_fill_53178_20 at h
    exact aw_vret rfl (by decide) (by decide) dJ7_fill_53178_20 ⟨rfl, rfl, (Ok.dn h :)⟩
  have hJ_5 : ∀ (v1 : Int32) (v2 : Int32) (v3 : Int32) (D : aD), Ok (J_J7_fill_53178_5 a0 na0 v1 v2 v3 D) K → AW G (aRm 1 0 0) M_J7_fill_53178 fr 0 0 5 [some (.ref a0), some (.int v1), some (.int v2), some (.int v3)] [] shp D (aQv shp K) := by
    intro v1 v2 v3 D h
    unfold J_J7_fill_53178_5 at h
    refine Ok.lp (P := fun s => AW G (aRm 1 0 0) M_J7_fill_53178 fr 0 0 5 [some (.ref a0), some (.int v1), some (.int (s.1)), some (.int v3)] [] shp s.2 (aQv shp K)) (fun s Kb5 hL5 hR5 h => ?_) (v2, D) (Ok.bind h)
    obtain ⟨v2, D⟩ := s
    replace h : Ok (B_J7_fill_53178_5 a0 na0 v1 v3 v2 D) Kb5 := h
    unfold B_J7_fill_53178_5 at h
    refine aw_iload_n (n := 6) (i := 2) dJ7_fill_53178_5 rfl rfl rfl ?_
    refine aw_iload_n (n := 7) (i := 3) dJ7_fill_53178_6 rfl rfl rfl ?_
    refine aw_icmp_ge (n := 10) (tgt := 20) dJ7_fill_53178_7 rfl (by decide) (fun c => ?_) (fun c => ?_)
    · replace h := Ok.ift h c
      exact aw_le' (hJ_20 D (hR5 D (Ok.dn h :))) trivial
    · replace h := Ok.iff h c
      refine aw_aload_n (n := 11) (i := 0) dJ7_fill_53178_10 rfl rfl rfl ?_
      refine aw_iload_n (n := 12) (i := 2) dJ7_fill_53178_11 rfl rfl rfl ?_
      refine aw_iload_n (n := 13) (i := 1) dJ7_fill_53178_12 rfl rfl rfl ?_
      obtain ⟨g_2, h⟩ := Ok.gd h
      obtain ⟨D_3, e_D_3, h⟩ := Ok.let_ h
      refine aw_iastore (n := 14) hG.1 ha0 (aIn_in g_2) e_D_3 dJ7_fill_53178_13 rfl ?_
      obtain ⟨v2_4, e_v2_4, h⟩ := Ok.let_ h
      refine aw_iinc (n := 17) (al' := [some (.ref a0), some (.int v1), some (.int v2_4), some (.int v3)]) dJ7_fill_53178_14 rfl rfl e_v2_4 (by decide) rfl ?_
      refine aw_goto (tgt := 5) dJ7_fill_53178_17 (by decide) ?_
      exact aw_le' (hL5 (v2_4, D_3) (Ok.dn h :)) ⟨rfl, ⟨rfl, ⟨rfl, ⟨rfl, trivial⟩⟩⟩⟩
  refine aw_iconst (n := 1) (v := 0) dJ7_fill_53178_0 rfl (by decide) ?_
  refine aw_istore_n (n := 2) (i := 2) (al' := [some (.ref a0), some (.int v1), some (.int 0), none]) dJ7_fill_53178_1 rfl rfl rfl (by decide) rfl ?_
  refine aw_aload_n (n := 3) (i := 0) dJ7_fill_53178_2 rfl rfl rfl ?_
  refine aw_alen (n := 4) (t := 1) (v := Int32.ofNat na0) hG.1 rfl ha0 rfl dJ7_fill_53178_3 rfl ?_
  obtain ⟨v3_1, e_v3_1, h⟩ := Ok.let_ h
  refine aw_istore_n (n := 5) (i := 3) (al' := [some (.ref a0), some (.int v1), some (.int 0), some (.int v3_1)]) dJ7_fill_53178_4 rfl rfl e_v3_1 (by decide) rfl ?_
  exact aw_le' (hJ_5 v1 0 v3_1 D h) ⟨rfl, ⟨rfl, ⟨rfl, ⟨rfl, trivial⟩⟩⟩⟩
theorem dX6_clear_0 : decode cX6_clear 0 = .ok (.aload_n 0, 1) := by decide +kernel
theorem dX6_clear_1 : decode cX6_clear 1 = .ok (.getfield 12, 3) := by decide +kernel
theorem dX6_clear_4 : decode cX6_clear 4 = .ok (.bipush 6, 2) := by decide +kernel
theorem dX6_clear_6 : decode cX6_clear 6 = .ok (.bipush 6, 2) := by decide +kernel
theorem dX6_clear_8 : decode cX6_clear 8 = .ok (.invokevirtual 51, 3) := by decide +kernel
theorem dX6_clear_11 : decode cX6_clear 11 = .ok (.aload_n 0, 1) := by decide +kernel
theorem dX6_clear_12 : decode cX6_clear 12 = .ok (.iconst 0, 1) := by decide +kernel
theorem dX6_clear_13 : decode cX6_clear 13 = .ok (.putfield 55, 3) := by decide +kernel
theorem dX6_clear_16 : decode cX6_clear 16 = .ok (.aload_n 0, 1) := by decide +kernel
theorem dX6_clear_17 : decode cX6_clear 17 = .ok (.iconst 0, 1) := by decide +kernel
theorem dX6_clear_18 : decode cX6_clear 18 = .ok (.putfield 59, 3) := by decide +kernel
theorem dX6_clear_21 : decode cX6_clear 21 = .ok (.aload_n 0, 1) := by decide +kernel
theorem dX6_clear_22 : decode cX6_clear 22 = .ok (.iconst 0, 1) := by decide +kernel
theorem dX6_clear_23 : decode cX6_clear 23 = .ok (.putfield 62, 3) := by decide +kernel
theorem dX6_clear_26 : decode cX6_clear 26 = .ok (.aload_n 0, 1) := by decide +kernel
theorem dX6_clear_27 : decode cX6_clear 27 = .ok (.iconst 0, 1) := by decide +kernel
theorem dX6_clear_28 : decode cX6_clear 28 = .ok (.putfield 65, 3) := by decide +kernel
theorem dX6_clear_31 : decode cX6_clear 31 = .ok (.aload_n 0, 1) := by decide +kernel
theorem dX6_clear_32 : decode cX6_clear 32 = .ok (.iconst 5, 1) := by decide +kernel
theorem dX6_clear_33 : decode cX6_clear 33 = .ok (.putfield 68, 3) := by decide +kernel
theorem dX6_clear_36 : decode cX6_clear 36 = .ok (.aload_n 0, 1) := by decide +kernel
theorem dX6_clear_37 : decode cX6_clear 37 = .ok (.iconst 2, 1) := by decide +kernel
theorem dX6_clear_38 : decode cX6_clear 38 = .ok (.putfield 71, 3) := by decide +kernel
theorem dX6_clear_41 : decode cX6_clear 41 = .ok (.aload_n 0, 1) := by decide +kernel
theorem dX6_clear_42 : decode cX6_clear 42 = .ok (.iconst 2, 1) := by decide +kernel
theorem dX6_clear_43 : decode cX6_clear 43 = .ok (.putfield 74, 3) := by decide +kernel
theorem dX6_clear_46 : decode cX6_clear 46 = .ok (.aload_n 0, 1) := by decide +kernel
theorem dX6_clear_47 : decode cX6_clear 47 = .ok (.iconst 0, 1) := by decide +kernel
theorem dX6_clear_48 : decode cX6_clear 48 = .ok (.putfield 77, 3) := by decide +kernel
theorem dX6_clear_51 : decode cX6_clear 51 = .ok (.aload_n 0, 1) := by decide +kernel
theorem dX6_clear_52 : decode cX6_clear 52 = .ok (.getfield 37, 3) := by decide +kernel
theorem dX6_clear_55 : decode cX6_clear 55 = .ok (.iconst 0, 1) := by decide +kernel
theorem dX6_clear_56 : decode cX6_clear 56 = .ok (.invokestatic 80, 3) := by decide +kernel
theorem dX6_clear_59 : decode cX6_clear 59 = .ok (.iconst 0, 1) := by decide +kernel
theorem dX6_clear_60 : decode cX6_clear 60 = .ok (.istore_n 1, 1) := by decide +kernel
theorem dX6_clear_61 : decode cX6_clear 61 = .ok (.iload_n 1, 1) := by decide +kernel
theorem dX6_clear_62 : decode cX6_clear 62 = .ok (.bipush 6, 2) := by decide +kernel
theorem dX6_clear_64 : decode cX6_clear 64 = .ok (.if_icmp .ge 16, 3) := by decide +kernel
theorem dX6_clear_67 : decode cX6_clear 67 = .ok (.aload_n 0, 1) := by decide +kernel
theorem dX6_clear_68 : decode cX6_clear 68 = .ok (.getfield 40, 3) := by decide +kernel
theorem dX6_clear_71 : decode cX6_clear 71 = .ok (.iload_n 1, 1) := by decide +kernel
theorem dX6_clear_72 : decode cX6_clear 72 = .ok (.iconst 0, 1) := by decide +kernel
theorem dX6_clear_73 : decode cX6_clear 73 = .ok (.bastore, 1) := by decide +kernel
theorem dX6_clear_74 : decode cX6_clear 74 = .ok (.iinc 1 1, 3) := by decide +kernel
theorem dX6_clear_77 : decode cX6_clear 77 = .ok (.goto (-16), 3) := by decide +kernel
theorem dX6_clear_80 : decode cX6_clear 80 = .ok (.aload_n 0, 1) := by decide +kernel
theorem dX6_clear_81 : decode cX6_clear 81 = .ok (.getfield 44, 3) := by decide +kernel
theorem dX6_clear_84 : decode cX6_clear 84 = .ok (.iconst 1, 1) := by decide +kernel
theorem dX6_clear_85 : decode cX6_clear 85 = .ok (.invokestatic 80, 3) := by decide +kernel
theorem dX6_clear_88 : decode cX6_clear 88 = .ok (.return_, 1) := by decide +kernel
def J_X6_clear_2_80 (D : aD) : Option (aD) :=
  (f_J7_fill_53178 14 5 1 D).bind (fun D_11 => some D_11)
def B_X6_clear_2_61 (v1 : Int32) (D : aD) : Option ((Int32 × aD) ⊕ ((aD))) :=
  if 6 ≤ v1 then (some (.inr D)) else (aGd (aIn v1 6) (aLet (pI D 13 v1.toNatClampNeg 0) (fun D_13 => aLet (v1 + 1) (fun v1_14 => some (.inl (v1_14, D_13))))))
def J_X6_clear_2_61 (v1 : Int32) (D : aD) : Option (aD) :=
  (aLp (fun s => B_X6_clear_2_61 s.1 s.2) (v1, D)).bind (fun r => J_X6_clear_2_80 r)
def f_X6_clear_2 (D : aD) : Option (aD) :=
  (f_X4_lay_3 6 6 D).bind (fun D_1 => aLet (pI D_1 2 2 0) (fun D_2 => aLet (pI D_2 2 3 0) (fun D_3 => aLet (pI D_3 2 4 0) (fun D_4 => aLet (pI D_4 2 5 0) (fun D_5 => aLet (pI D_5 2 6 5) (fun D_6 => aLet (pI D_6 2 7 2) (fun D_7 => aLet (pI D_7 2 8 2) (fun D_8 => aLet (pI D_8 2 9 0) (fun D_9 => (f_J7_fill_53178 12 36 0 D_9).bind (fun D_10 => J_X6_clear_2_61 0 D_10))))))))))
set_option maxRecDepth 100000 in
set_option maxHeartbeats 800000 in
theorem c_X6_clear_2 {G : aG} (hG : gOK G) {shp : List aSh} {fr : Option Nat} {D : aD} {K : aD → Prop} (h : Ok (f_X6_clear_2 D) K) (hs_2 : shp[2]? = some (.inr (6, [some (some 3), some (some 7), none, none, none, none, none, none, none, none, some (some 8), some (some 9), some (some 10), some (some 11), some (some 12), some (some 13), some (some 14)]))) (hs_3 : shp[3]? = some (.inr (4, [none, none, some (some 4), some (some 5), some (some 6)]))) (hs_4 : shp[4]? = some (.inl (1, 64, []))) (hs_5 : shp[5]? = some (.inl (1, 64, []))) (hs_6 : shp[6]? = some (.inl (3, 64, []))) (hs_12 : shp[12]? = some (.inl (1, 36, []))) (hs_13 : shp[13]? = some (.inl (3, 6, []))) (hs_14 : shp[14]? = some (.inl (1, 5, []))) : AC G (aRm 3 0 0) M_X6_clear [.ref 2] fr shp D (aQv shp K) := by
  unfold f_X6_clear_2 at h
  refine AC.of (al := [some (.ref 2), none]) (r := 1) (by decide) (Nat.le_of_ble_eq_true rfl) rfl ?_
  have hJ_80 : ∀ (D : aD), Ok (J_X6_clear_2_80 D) K → AW G (aRm 3 0 0) M_X6_clear fr 0 0 80 [some (.ref 2), none] [] shp D (aQv shp K) := by
    intro D h
    unfold J_X6_clear_2_80 at h
    refine aw_aload_n (n := 81) (i := 0) dX6_clear_80 rfl rfl rfl ?_
    refine aw_getR (n := 84) (j := 16) (r := 14) hG.1 fl_RX6_44 hs_2 rfl dX6_clear_81 rfl ?_
    refine aw_iconst (n := 85) (v := 1) dX6_clear_84 rfl (by decide) ?_
    refine aw_cSv (M := M_X6_clear) (n := 88) (As := [.ref 14, .int 1]) (rest := []) lk_RX6_80 rfl rfl (c_J7_fill_53178 hG (h := Ok.bind h) hs_14) (by decide) (Nat.le_of_ble_eq_true rfl) (by decide) (by decide) dX6_clear_85 rfl (fun D_11 h => ?_)
    exact aw_vret rfl (by decide) (by decide) dX6_clear_88 ⟨rfl, rfl, (Ok.dn h :)⟩
  have hJ_61 : ∀ (v1 : Int32) (D : aD), Ok (J_X6_clear_2_61 v1 D) K → AW G (aRm 3 0 0) M_X6_clear fr 0 0 61 [some (.ref 2), some (.int v1)] [] shp D (aQv shp K) := by
    intro v1 D h
    unfold J_X6_clear_2_61 at h
    refine Ok.lp (P := fun s => AW G (aRm 3 0 0) M_X6_clear fr 0 0 61 [some (.ref 2), some (.int (s.1))] [] shp s.2 (aQv shp K)) (fun s Kb61 hL61 hR61 h => ?_) (v1, D) (Ok.bind h)
    obtain ⟨v1, D⟩ := s
    replace h : Ok (B_X6_clear_2_61 v1 D) Kb61 := h
    unfold B_X6_clear_2_61 at h
    refine aw_iload_n (n := 62) (i := 1) dX6_clear_61 rfl rfl rfl ?_
    refine aw_bipush (n := 64) (v := 6) dX6_clear_62 rfl (by decide) ?_
    refine aw_icmp_ge (n := 67) (tgt := 80) dX6_clear_64 rfl (by decide) (fun c => ?_) (fun c => ?_)
    · replace h := Ok.ift h c
      exact aw_le' (hJ_80 D (hR61 D (Ok.dn h :))) ⟨rfl, trivial⟩
    · replace h := Ok.iff h c
      refine aw_aload_n (n := 68) (i := 0) dX6_clear_67 rfl rfl rfl ?_
      refine aw_getR (n := 71) (j := 15) (r := 13) hG.1 fl_RX6_40 hs_2 rfl dX6_clear_68 rfl ?_
      refine aw_iload_n (n := 72) (i := 1) dX6_clear_71 rfl rfl rfl ?_
      refine aw_iconst (n := 73) (v := 0) dX6_clear_72 rfl (by decide) ?_
      obtain ⟨g_12, h⟩ := Ok.gd h
      obtain ⟨D_13, e_D_13, h⟩ := Ok.let_ h
      refine aw_zastore (n := 74) hG.1 (by decide) hs_13 (aIn_in g_12) e_D_13 dX6_clear_73 rfl ?_
      obtain ⟨v1_14, e_v1_14, h⟩ := Ok.let_ h
      refine aw_iinc (n := 77) (al' := [some (.ref 2), some (.int v1_14)]) dX6_clear_74 rfl rfl e_v1_14 (by decide) rfl ?_
      refine aw_goto (tgt := 61) dX6_clear_77 (by decide) ?_
      exact aw_le' (hL61 (v1_14, D_13) (Ok.dn h :)) ⟨rfl, ⟨rfl, trivial⟩⟩
  refine aw_aload_n (n := 1) (i := 0) dX6_clear_0 rfl rfl rfl ?_
  refine aw_getR (n := 4) (j := 0) (r := 3) hG.1 fl_RX6_12 hs_2 rfl dX6_clear_1 rfl ?_
  refine aw_bipush (n := 6) (v := 6) dX6_clear_4 rfl (by decide) ?_
  refine aw_bipush (n := 8) (v := 6) dX6_clear_6 rfl (by decide) ?_
  refine aw_cVv (M := M_X6_clear) (n := 11) (As := [.int 6, .int 6]) (rest := []) hG.1 lk_RX6_51 rfl rfl hs_3 (c_X4_lay_3 hG (h := Ok.bind h) hs_3 hs_4 hs_5 hs_6) (by decide) (Nat.le_of_ble_eq_true rfl) (by decide) (by decide) dX6_clear_8 rfl (fun D_1 h => ?_)
  refine aw_aload_n (n := 12) (i := 0) dX6_clear_11 rfl rfl rfl ?_
  refine aw_iconst (n := 13) (v := 0) dX6_clear_12 rfl (by decide) ?_
  obtain ⟨D_2, e_D_2, h⟩ := Ok.let_ h
  refine aw_putI (n := 16) (j := 2) hG.1 fl_RX6_55 hs_2 rfl e_D_2 dX6_clear_13 rfl ?_
  refine aw_aload_n (n := 17) (i := 0) dX6_clear_16 rfl rfl rfl ?_
  refine aw_iconst (n := 18) (v := 0) dX6_clear_17 rfl (by decide) ?_
  obtain ⟨D_3, e_D_3, h⟩ := Ok.let_ h
  refine aw_putI (n := 21) (j := 3) hG.1 fl_RX6_59 hs_2 rfl e_D_3 dX6_clear_18 rfl ?_
  refine aw_aload_n (n := 22) (i := 0) dX6_clear_21 rfl rfl rfl ?_
  refine aw_iconst (n := 23) (v := 0) dX6_clear_22 rfl (by decide) ?_
  obtain ⟨D_4, e_D_4, h⟩ := Ok.let_ h
  refine aw_putI (n := 26) (j := 4) hG.1 fl_RX6_62 hs_2 rfl e_D_4 dX6_clear_23 rfl ?_
  refine aw_aload_n (n := 27) (i := 0) dX6_clear_26 rfl rfl rfl ?_
  refine aw_iconst (n := 28) (v := 0) dX6_clear_27 rfl (by decide) ?_
  obtain ⟨D_5, e_D_5, h⟩ := Ok.let_ h
  refine aw_putI (n := 31) (j := 5) hG.1 fl_RX6_65 hs_2 rfl e_D_5 dX6_clear_28 rfl ?_
  refine aw_aload_n (n := 32) (i := 0) dX6_clear_31 rfl rfl rfl ?_
  refine aw_iconst (n := 33) (v := 5) dX6_clear_32 rfl (by decide) ?_
  obtain ⟨D_6, e_D_6, h⟩ := Ok.let_ h
  refine aw_putI (n := 36) (j := 6) hG.1 fl_RX6_68 hs_2 rfl e_D_6 dX6_clear_33 rfl ?_
  refine aw_aload_n (n := 37) (i := 0) dX6_clear_36 rfl rfl rfl ?_
  refine aw_iconst (n := 38) (v := 2) dX6_clear_37 rfl (by decide) ?_
  obtain ⟨D_7, e_D_7, h⟩ := Ok.let_ h
  refine aw_putI (n := 41) (j := 7) hG.1 fl_RX6_71 hs_2 rfl e_D_7 dX6_clear_38 rfl ?_
  refine aw_aload_n (n := 42) (i := 0) dX6_clear_41 rfl rfl rfl ?_
  refine aw_iconst (n := 43) (v := 2) dX6_clear_42 rfl (by decide) ?_
  obtain ⟨D_8, e_D_8, h⟩ := Ok.let_ h
  refine aw_putI (n := 46) (j := 8) hG.1 fl_RX6_74 hs_2 rfl e_D_8 dX6_clear_43 rfl ?_
  refine aw_aload_n (n := 47) (i := 0) dX6_clear_46 rfl rfl rfl ?_
  refine aw_iconst (n := 48) (v := 0) dX6_clear_47 rfl (by decide) ?_
  obtain ⟨D_9, e_D_9, h⟩ := Ok.let_ h
  refine aw_putI (n := 51) (j := 9) hG.1 fl_RX6_77 hs_2 rfl e_D_9 dX6_clear_48 rfl ?_
  refine aw_aload_n (n := 52) (i := 0) dX6_clear_51 rfl rfl rfl ?_
  refine aw_getR (n := 55) (j := 14) (r := 12) hG.1 fl_RX6_37 hs_2 rfl dX6_clear_52 rfl ?_
  refine aw_iconst (n := 56) (v := 0) dX6_clear_55 rfl (by decide) ?_
  refine aw_cSv (M := M_X6_clear) (n := 59) (As := [.ref 12, .int 0]) (rest := []) lk_RX6_80 rfl rfl (c_J7_fill_53178 hG (h := Ok.bind h) hs_12) (by decide) (Nat.le_of_ble_eq_true rfl) (by decide) (by decide) dX6_clear_56 rfl (fun D_10 h => ?_)
  refine aw_iconst (n := 60) (v := 0) dX6_clear_59 rfl (by decide) ?_
  refine aw_istore_n (n := 61) (i := 1) (al' := [some (.ref 2), some (.int 0)]) dX6_clear_60 rfl rfl rfl (by decide) rfl ?_
  exact aw_le' (hJ_61 0 D_10 h) ⟨rfl, ⟨rfl, trivial⟩⟩
def J_X4_clearTaken_22_21 (D : aD) : Option (aD) :=
  some D
def B_X4_clearTaken_22_2 (v1 : Int32) (D : aD) : Option ((Int32 × aD) ⊕ ((aD))) :=
  if 64 ≤ v1 then (some (.inr D)) else (aGd (aIn v1 64) (aLet (pI D 25 v1.toNatClampNeg 0) (fun D_2 => aLet (v1 + 1) (fun v1_3 => some (.inl (v1_3, D_2))))))
def J_X4_clearTaken_22_2 (v1 : Int32) (D : aD) : Option (aD) :=
  (aLp (fun s => B_X4_clearTaken_22_2 s.1 s.2) (v1, D)).bind (fun r => J_X4_clearTaken_22_21 r)
def f_X4_clearTaken_22 (D : aD) : Option (aD) :=
  J_X4_clearTaken_22_2 0 D
set_option maxRecDepth 100000 in
set_option maxHeartbeats 800000 in
theorem c_X4_clearTaken_22 {G : aG} (hG : gOK G) {shp : List aSh} {fr : Option Nat} {D : aD} {K : aD → Prop} (h : Ok (f_X4_clearTaken_22 D) K) (hs_22 : shp[22]? = some (.inr (4, [none, none, some (some 23), some (some 24), some (some 25)]))) (hs_25 : shp[25]? = some (.inl (3, 64, []))) : AC G (aRm 1 0 0) M_X4_clearTaken [.ref 22] fr shp D (aQv shp K) := by
  unfold f_X4_clearTaken_22 at h
  refine AC.of (al := [some (.ref 22), none]) (r := 1) (by decide) (Nat.le_of_ble_eq_true rfl) rfl ?_
  have hJ_21 : ∀ (D : aD), Ok (J_X4_clearTaken_22_21 D) K → AW G (aRm 1 0 0) M_X4_clearTaken fr 0 0 21 [none, none] [] shp D (aQv shp K) := by
    intro D h
    unfold J_X4_clearTaken_22_21 at h
    exact aw_vret rfl (by decide) (by decide) dX4_clearTaken_21 ⟨rfl, rfl, (Ok.dn h :)⟩
  have hJ_2 : ∀ (v1 : Int32) (D : aD), Ok (J_X4_clearTaken_22_2 v1 D) K → AW G (aRm 1 0 0) M_X4_clearTaken fr 0 0 2 [some (.ref 22), some (.int v1)] [] shp D (aQv shp K) := by
    intro v1 D h
    unfold J_X4_clearTaken_22_2 at h
    refine Ok.lp (P := fun s => AW G (aRm 1 0 0) M_X4_clearTaken fr 0 0 2 [some (.ref 22), some (.int (s.1))] [] shp s.2 (aQv shp K)) (fun s Kb2 hL2 hR2 h => ?_) (v1, D) (Ok.bind h)
    obtain ⟨v1, D⟩ := s
    replace h : Ok (B_X4_clearTaken_22_2 v1 D) Kb2 := h
    unfold B_X4_clearTaken_22_2 at h
    refine aw_iload_n (n := 3) (i := 1) dX4_clearTaken_2 rfl rfl rfl ?_
    refine aw_bipush (n := 5) (v := 64) dX4_clearTaken_3 rfl (by decide) ?_
    refine aw_icmp_ge (n := 8) (tgt := 21) dX4_clearTaken_5 rfl (by decide) (fun c => ?_) (fun c => ?_)
    · replace h := Ok.ift h c
      exact aw_le' (hJ_21 D (hR2 D (Ok.dn h :))) trivial
    · replace h := Ok.iff h c
      refine aw_aload_n (n := 9) (i := 0) dX4_clearTaken_8 rfl rfl rfl ?_
      refine aw_getR (n := 12) (j := 4) (r := 25) hG.1 fl_RX4_18 hs_22 rfl dX4_clearTaken_9 rfl ?_
      refine aw_iload_n (n := 13) (i := 1) dX4_clearTaken_12 rfl rfl rfl ?_
      refine aw_iconst (n := 14) (v := 0) dX4_clearTaken_13 rfl (by decide) ?_
      obtain ⟨g_1, h⟩ := Ok.gd h
      obtain ⟨D_2, e_D_2, h⟩ := Ok.let_ h
      refine aw_zastore (n := 15) hG.1 (by decide) hs_25 (aIn_in g_1) e_D_2 dX4_clearTaken_14 rfl ?_
      obtain ⟨v1_3, e_v1_3, h⟩ := Ok.let_ h
      refine aw_iinc (n := 18) (al' := [some (.ref 22), some (.int v1_3)]) dX4_clearTaken_15 rfl rfl e_v1_3 (by decide) rfl ?_
      refine aw_goto (tgt := 2) dX4_clearTaken_18 (by decide) ?_
      exact aw_le' (hL2 (v1_3, D_2) (Ok.dn h :)) ⟨rfl, ⟨rfl, trivial⟩⟩
  refine aw_iconst (n := 1) (v := 0) dX4_clearTaken_0 rfl (by decide) ?_
  refine aw_istore_n (n := 2) (i := 1) (al' := [some (.ref 22), some (.int 0)]) dX4_clearTaken_1 rfl rfl rfl (by decide) rfl ?_
  exact aw_le' (hJ_2 0 D h) ⟨rfl, ⟨rfl, trivial⟩⟩
def J_X4_lay_22_76 (D : aD) : Option (aD) :=
  (f_X4_clearTaken_22 D).bind (fun D_3 => some D_3)
def J_X4_lay_22_70 (v1 : Int32) (v2 : Int32) (v3 : Int32) (D : aD) : Option ((Int32 × aD) ⊕ ((aD))) :=
  aLet (v3 + 1) (fun v3_4 => some (.inl (v3_4, D)))
def B_X4_lay_22_26 (v1 : Int32) (v2 : Int32) (v3 : Int32) (v4 : Int32) (D : aD) : Option ((Int32 × aD) ⊕ ((aD))) :=
  if v1 ≤ v4 then (some (.inr D)) else (if 8 ≤ v4 then (some (.inr D)) else (aGd (aIn ((v3 * v1) + v4) 64) (aLet (pI D 23 ((v3 * v1) + v4).toNatClampNeg v4) (fun D_6 => aGd (aIn ((v3 * v1) + v4) 64) (aLet (pI D_6 24 ((v3 * v1) + v4).toNatClampNeg v3) (fun D_8 => aLet (v4 + 1) (fun v4_9 => some (.inl (v4_9, D_8)))))))))
def J_X4_lay_22_26 (v1 : Int32) (v2 : Int32) (v3 : Int32) (v4 : Int32) (D : aD) : Option ((Int32 × aD) ⊕ ((aD))) :=
  (aLp (fun s => B_X4_lay_22_26 v1 v2 v3 s.1 s.2) (v4, D)).bind (fun r => J_X4_lay_22_70 v1 v2 v3 r)
def B_X4_lay_22_12 (v1 : Int32) (v2 : Int32) (v3 : Int32) (D : aD) : Option ((Int32 × aD) ⊕ ((aD))) :=
  if v2 ≤ v3 then (some (.inr D)) else (if 8 ≤ v3 then (some (.inr D)) else (J_X4_lay_22_26 v1 v2 v3 0 D))
def J_X4_lay_22_12 (v1 : Int32) (v2 : Int32) (v3 : Int32) (D : aD) : Option (aD) :=
  (aLp (fun s => B_X4_lay_22_12 v1 v2 s.1 s.2) (v3, D)).bind (fun r => J_X4_lay_22_76 r)
def f_X4_lay_22 (v1 : Int32) (v2 : Int32) (D : aD) : Option (aD) :=
  aLet (pI D 22 0 v1) (fun D_1 => aLet (pI D_1 22 1 v2) (fun D_2 => J_X4_lay_22_12 v1 v2 0 D_2))
set_option maxRecDepth 100000 in
set_option maxHeartbeats 800000 in
theorem c_X4_lay_22 {G : aG} (hG : gOK G) {shp : List aSh} {fr : Option Nat} {v1 : Int32} {v2 : Int32} {D : aD} {K : aD → Prop} (h : Ok (f_X4_lay_22 v1 v2 D) K) (hs_22 : shp[22]? = some (.inr (4, [none, none, some (some 23), some (some 24), some (some 25)]))) (hs_23 : shp[23]? = some (.inl (1, 64, []))) (hs_24 : shp[24]? = some (.inl (1, 64, []))) (hs_25 : shp[25]? = some (.inl (3, 64, []))) : AC G (aRm 2 0 0) M_X4_lay [.ref 22, .int v1, .int v2] fr shp D (aQv shp K) := by
  unfold f_X4_lay_22 at h
  refine AC.of (al := [some (.ref 22), some (.int v1), some (.int v2), none, none]) (r := 2) (by decide) (Nat.le_of_ble_eq_true rfl) rfl ?_
  have hJ_76 : ∀ (D : aD), Ok (J_X4_lay_22_76 D) K → AW G (aRm 2 0 0) M_X4_lay fr 0 0 76 [some (.ref 22), none, none, none, none] [] shp D (aQv shp K) := by
    intro D h
    unfold J_X4_lay_22_76 at h
    refine aw_aload_n (n := 77) (i := 0) dX4_lay_76 rfl rfl rfl ?_
    refine aw_cVv (M := M_X4_lay) (n := 80) (As := []) (rest := []) hG.1 lk_RX4_29 rfl rfl hs_22 (c_X4_clearTaken_22 hG (h := Ok.bind h) hs_22 hs_25) (by decide) (Nat.le_of_ble_eq_true rfl) (by decide) (by decide) dX4_lay_77 rfl (fun D_3 h => ?_)
    exact aw_vret rfl (by decide) (by decide) dX4_lay_80 ⟨rfl, rfl, (Ok.dn h :)⟩
  have hJ_12 : ∀ (v1 : Int32) (v2 : Int32) (v3 : Int32) (D : aD), Ok (J_X4_lay_22_12 v1 v2 v3 D) K → AW G (aRm 2 0 0) M_X4_lay fr 0 0 12 [some (.ref 22), some (.int v1), some (.int v2), some (.int v3), none] [] shp D (aQv shp K) := by
    intro v1 v2 v3 D h
    unfold J_X4_lay_22_12 at h
    refine Ok.lp (P := fun s => AW G (aRm 2 0 0) M_X4_lay fr 0 0 12 [some (.ref 22), some (.int v1), some (.int v2), some (.int (s.1)), none] [] shp s.2 (aQv shp K)) (fun s Kb12 hL12 hR12 h => ?_) (v3, D) (Ok.bind h)
    obtain ⟨v3, D⟩ := s
    replace h : Ok (B_X4_lay_22_12 v1 v2 v3 D) Kb12 := h
    unfold B_X4_lay_22_12 at h
    have hJ_70 : ∀ (v3 : Int32) (D : aD), Ok (J_X4_lay_22_70 v1 v2 v3 D) Kb12 → AW G (aRm 2 0 0) M_X4_lay fr 0 0 70 [some (.ref 22), some (.int v1), some (.int v2), some (.int v3), none] [] shp D (aQv shp K) := by
      intro v3 D h
      unfold J_X4_lay_22_70 at h
      obtain ⟨v3_4, e_v3_4, h⟩ := Ok.let_ h
      refine aw_iinc (n := 73) (al' := [some (.ref 22), some (.int v1), some (.int v2), some (.int v3_4), none]) dX4_lay_70 rfl rfl e_v3_4 (by decide) rfl ?_
      refine aw_goto (tgt := 12) dX4_lay_73 (by decide) ?_
      exact aw_le' (hL12 (v3_4, D) (Ok.dn h :)) ⟨rfl, ⟨rfl, ⟨rfl, ⟨rfl, trivial⟩⟩⟩⟩
    have hJ_26 : ∀ (v3 : Int32) (v4 : Int32) (D : aD), Ok (J_X4_lay_22_26 v1 v2 v3 v4 D) Kb12 → AW G (aRm 2 0 0) M_X4_lay fr 0 0 26 [some (.ref 22), some (.int v1), some (.int v2), some (.int v3), some (.int v4)] [] shp D (aQv shp K) := by
      intro v3 v4 D h
      unfold J_X4_lay_22_26 at h
      refine Ok.lp (P := fun s => AW G (aRm 2 0 0) M_X4_lay fr 0 0 26 [some (.ref 22), some (.int v1), some (.int v2), some (.int v3), some (.int (s.1))] [] shp s.2 (aQv shp K)) (fun s Kb26 hL26 hR26 h => ?_) (v4, D) (Ok.bind h)
      obtain ⟨v4, D⟩ := s
      replace h : Ok (B_X4_lay_22_26 v1 v2 v3 v4 D) Kb26 := h
      unfold B_X4_lay_22_26 at h
      refine aw_iload (n := 28) (i := 4) dX4_lay_26 rfl rfl ?_
      refine aw_iload_n (n := 29) (i := 1) dX4_lay_28 rfl rfl rfl ?_
      refine aw_icmp_ge (n := 32) (tgt := 70) dX4_lay_29 rfl (by decide) (fun c => ?_) (fun c => ?_)
      · replace h := Ok.ift h c
        exact aw_le' (hJ_70 v3 D (hR26 D (Ok.dn h :))) ⟨rfl, ⟨rfl, ⟨rfl, ⟨rfl, trivial⟩⟩⟩⟩
      · replace h := Ok.iff h c
        refine aw_iload (n := 34) (i := 4) dX4_lay_32 rfl rfl ?_
        refine aw_bipush (n := 36) (v := 8) dX4_lay_34 rfl (by decide) ?_
        refine aw_icmp_ge (n := 39) (tgt := 70) dX4_lay_36 rfl (by decide) (fun c => ?_) (fun c => ?_)
        · replace h := Ok.ift h c
          exact aw_le' (hJ_70 v3 D (hR26 D (Ok.dn h :))) ⟨rfl, ⟨rfl, ⟨rfl, ⟨rfl, trivial⟩⟩⟩⟩
        · replace h := Ok.iff h c
          refine aw_aload_n (n := 40) (i := 0) dX4_lay_39 rfl rfl rfl ?_
          refine aw_getR (n := 43) (j := 2) (r := 23) hG.1 fl_RX4_9 hs_22 rfl dX4_lay_40 rfl ?_
          refine aw_iload_n (n := 44) (i := 3) dX4_lay_43 rfl rfl rfl ?_
          refine aw_iload_n (n := 45) (i := 1) dX4_lay_44 rfl rfl rfl ?_
          refine aw_imul (n := 46) dX4_lay_45 rfl ?_
          refine aw_iload (n := 48) (i := 4) dX4_lay_46 rfl rfl ?_
          refine aw_iadd (n := 49) dX4_lay_48 rfl ?_
          refine aw_iload (n := 51) (i := 4) dX4_lay_49 rfl rfl ?_
          obtain ⟨g_5, h⟩ := Ok.gd h
          obtain ⟨D_6, e_D_6, h⟩ := Ok.let_ h
          refine aw_iastore (n := 52) hG.1 hs_23 (aIn_in g_5) e_D_6 dX4_lay_51 rfl ?_
          refine aw_aload_n (n := 53) (i := 0) dX4_lay_52 rfl rfl rfl ?_
          refine aw_getR (n := 56) (j := 3) (r := 24) hG.1 fl_RX4_15 hs_22 rfl dX4_lay_53 rfl ?_
          refine aw_iload_n (n := 57) (i := 3) dX4_lay_56 rfl rfl rfl ?_
          refine aw_iload_n (n := 58) (i := 1) dX4_lay_57 rfl rfl rfl ?_
          refine aw_imul (n := 59) dX4_lay_58 rfl ?_
          refine aw_iload (n := 61) (i := 4) dX4_lay_59 rfl rfl ?_
          refine aw_iadd (n := 62) dX4_lay_61 rfl ?_
          refine aw_iload_n (n := 63) (i := 3) dX4_lay_62 rfl rfl rfl ?_
          obtain ⟨g_7, h⟩ := Ok.gd h
          obtain ⟨D_8, e_D_8, h⟩ := Ok.let_ h
          refine aw_iastore (n := 64) hG.1 hs_24 (aIn_in g_7) e_D_8 dX4_lay_63 rfl ?_
          obtain ⟨v4_9, e_v4_9, h⟩ := Ok.let_ h
          refine aw_iinc (n := 67) (al' := [some (.ref 22), some (.int v1), some (.int v2), some (.int v3), some (.int v4_9)]) dX4_lay_64 rfl rfl e_v4_9 (by decide) rfl ?_
          refine aw_goto (tgt := 26) dX4_lay_67 (by decide) ?_
          exact aw_le' (hL26 (v4_9, D_8) (Ok.dn h :)) ⟨rfl, ⟨rfl, ⟨rfl, ⟨rfl, ⟨rfl, trivial⟩⟩⟩⟩⟩
    refine aw_iload_n (n := 13) (i := 3) dX4_lay_12 rfl rfl rfl ?_
    refine aw_iload_n (n := 14) (i := 2) dX4_lay_13 rfl rfl rfl ?_
    refine aw_icmp_ge (n := 17) (tgt := 76) dX4_lay_14 rfl (by decide) (fun c => ?_) (fun c => ?_)
    · replace h := Ok.ift h c
      exact aw_le' (hJ_76 D (hR12 D (Ok.dn h :))) ⟨rfl, trivial⟩
    · replace h := Ok.iff h c
      refine aw_iload_n (n := 18) (i := 3) dX4_lay_17 rfl rfl rfl ?_
      refine aw_bipush (n := 20) (v := 8) dX4_lay_18 rfl (by decide) ?_
      refine aw_icmp_ge (n := 23) (tgt := 76) dX4_lay_20 rfl (by decide) (fun c => ?_) (fun c => ?_)
      · replace h := Ok.ift h c
        exact aw_le' (hJ_76 D (hR12 D (Ok.dn h :))) ⟨rfl, trivial⟩
      · replace h := Ok.iff h c
        refine aw_iconst (n := 24) (v := 0) dX4_lay_23 rfl (by decide) ?_
        refine aw_istore (n := 26) (i := 4) (al' := [some (.ref 22), some (.int v1), some (.int v2), some (.int v3), some (.int 0)]) dX4_lay_24 rfl rfl (by decide) rfl ?_
        exact aw_le' (hJ_26 v3 0 D h) ⟨rfl, ⟨rfl, ⟨rfl, ⟨rfl, ⟨rfl, trivial⟩⟩⟩⟩⟩
  refine aw_aload_n (n := 1) (i := 0) dX4_lay_0 rfl rfl rfl ?_
  refine aw_iload_n (n := 2) (i := 1) dX4_lay_1 rfl rfl rfl ?_
  obtain ⟨D_1, e_D_1, h⟩ := Ok.let_ h
  refine aw_putI (n := 5) (j := 0) hG.1 fl_RX4_22 hs_22 rfl e_D_1 dX4_lay_2 rfl ?_
  refine aw_aload_n (n := 6) (i := 0) dX4_lay_5 rfl rfl rfl ?_
  refine aw_iload_n (n := 7) (i := 2) dX4_lay_6 rfl rfl rfl ?_
  obtain ⟨D_2, e_D_2, h⟩ := Ok.let_ h
  refine aw_putI (n := 10) (j := 1) hG.1 fl_RX4_26 hs_22 rfl e_D_2 dX4_lay_7 rfl ?_
  refine aw_iconst (n := 11) (v := 0) dX4_lay_10 rfl (by decide) ?_
  refine aw_istore_n (n := 12) (i := 3) (al' := [some (.ref 22), some (.int v1), some (.int v2), some (.int 0), none]) dX4_lay_11 rfl rfl rfl (by decide) rfl ?_
  exact aw_le' (hJ_12 v1 v2 0 D_2 h) ⟨rfl, ⟨rfl, ⟨rfl, ⟨rfl, trivial⟩⟩⟩⟩
def J_X6_clear_21_80 (D : aD) : Option (aD) :=
  (f_J7_fill_53178 33 5 1 D).bind (fun D_11 => some D_11)
def B_X6_clear_21_61 (v1 : Int32) (D : aD) : Option ((Int32 × aD) ⊕ ((aD))) :=
  if 6 ≤ v1 then (some (.inr D)) else (aGd (aIn v1 6) (aLet (pI D 32 v1.toNatClampNeg 0) (fun D_13 => aLet (v1 + 1) (fun v1_14 => some (.inl (v1_14, D_13))))))
def J_X6_clear_21_61 (v1 : Int32) (D : aD) : Option (aD) :=
  (aLp (fun s => B_X6_clear_21_61 s.1 s.2) (v1, D)).bind (fun r => J_X6_clear_21_80 r)
def f_X6_clear_21 (D : aD) : Option (aD) :=
  (f_X4_lay_22 6 6 D).bind (fun D_1 => aLet (pI D_1 21 2 0) (fun D_2 => aLet (pI D_2 21 3 0) (fun D_3 => aLet (pI D_3 21 4 0) (fun D_4 => aLet (pI D_4 21 5 0) (fun D_5 => aLet (pI D_5 21 6 5) (fun D_6 => aLet (pI D_6 21 7 2) (fun D_7 => aLet (pI D_7 21 8 2) (fun D_8 => aLet (pI D_8 21 9 0) (fun D_9 => (f_J7_fill_53178 31 36 0 D_9).bind (fun D_10 => J_X6_clear_21_61 0 D_10))))))))))
set_option maxRecDepth 100000 in
set_option maxHeartbeats 800000 in
theorem c_X6_clear_21 {G : aG} (hG : gOK G) {shp : List aSh} {fr : Option Nat} {D : aD} {K : aD → Prop} (h : Ok (f_X6_clear_21 D) K) (hs_21 : shp[21]? = some (.inr (6, [some (some 22), some (some 26), none, none, none, none, none, none, none, none, some (some 27), some (some 28), some (some 29), some (some 30), some (some 31), some (some 32), some (some 33)]))) (hs_22 : shp[22]? = some (.inr (4, [none, none, some (some 23), some (some 24), some (some 25)]))) (hs_23 : shp[23]? = some (.inl (1, 64, []))) (hs_24 : shp[24]? = some (.inl (1, 64, []))) (hs_25 : shp[25]? = some (.inl (3, 64, []))) (hs_31 : shp[31]? = some (.inl (1, 36, []))) (hs_32 : shp[32]? = some (.inl (3, 6, []))) (hs_33 : shp[33]? = some (.inl (1, 5, []))) : AC G (aRm 3 0 0) M_X6_clear [.ref 21] fr shp D (aQv shp K) := by
  unfold f_X6_clear_21 at h
  refine AC.of (al := [some (.ref 21), none]) (r := 1) (by decide) (Nat.le_of_ble_eq_true rfl) rfl ?_
  have hJ_80 : ∀ (D : aD), Ok (J_X6_clear_21_80 D) K → AW G (aRm 3 0 0) M_X6_clear fr 0 0 80 [some (.ref 21), none] [] shp D (aQv shp K) := by
    intro D h
    unfold J_X6_clear_21_80 at h
    refine aw_aload_n (n := 81) (i := 0) dX6_clear_80 rfl rfl rfl ?_
    refine aw_getR (n := 84) (j := 16) (r := 33) hG.1 fl_RX6_44 hs_21 rfl dX6_clear_81 rfl ?_
    refine aw_iconst (n := 85) (v := 1) dX6_clear_84 rfl (by decide) ?_
    refine aw_cSv (M := M_X6_clear) (n := 88) (As := [.ref 33, .int 1]) (rest := []) lk_RX6_80 rfl rfl (c_J7_fill_53178 hG (h := Ok.bind h) hs_33) (by decide) (Nat.le_of_ble_eq_true rfl) (by decide) (by decide) dX6_clear_85 rfl (fun D_11 h => ?_)
    exact aw_vret rfl (by decide) (by decide) dX6_clear_88 ⟨rfl, rfl, (Ok.dn h :)⟩
  have hJ_61 : ∀ (v1 : Int32) (D : aD), Ok (J_X6_clear_21_61 v1 D) K → AW G (aRm 3 0 0) M_X6_clear fr 0 0 61 [some (.ref 21), some (.int v1)] [] shp D (aQv shp K) := by
    intro v1 D h
    unfold J_X6_clear_21_61 at h
    refine Ok.lp (P := fun s => AW G (aRm 3 0 0) M_X6_clear fr 0 0 61 [some (.ref 21), some (.int (s.1))] [] shp s.2 (aQv shp K)) (fun s Kb61 hL61 hR61 h => ?_) (v1, D) (Ok.bind h)
    obtain ⟨v1, D⟩ := s
    replace h : Ok (B_X6_clear_21_61 v1 D) Kb61 := h
    unfold B_X6_clear_21_61 at h
    refine aw_iload_n (n := 62) (i := 1) dX6_clear_61 rfl rfl rfl ?_
    refine aw_bipush (n := 64) (v := 6) dX6_clear_62 rfl (by decide) ?_
    refine aw_icmp_ge (n := 67) (tgt := 80) dX6_clear_64 rfl (by decide) (fun c => ?_) (fun c => ?_)
    · replace h := Ok.ift h c
      exact aw_le' (hJ_80 D (hR61 D (Ok.dn h :))) ⟨rfl, trivial⟩
    · replace h := Ok.iff h c
      refine aw_aload_n (n := 68) (i := 0) dX6_clear_67 rfl rfl rfl ?_
      refine aw_getR (n := 71) (j := 15) (r := 32) hG.1 fl_RX6_40 hs_21 rfl dX6_clear_68 rfl ?_
      refine aw_iload_n (n := 72) (i := 1) dX6_clear_71 rfl rfl rfl ?_
      refine aw_iconst (n := 73) (v := 0) dX6_clear_72 rfl (by decide) ?_
      obtain ⟨g_12, h⟩ := Ok.gd h
      obtain ⟨D_13, e_D_13, h⟩ := Ok.let_ h
      refine aw_zastore (n := 74) hG.1 (by decide) hs_32 (aIn_in g_12) e_D_13 dX6_clear_73 rfl ?_
      obtain ⟨v1_14, e_v1_14, h⟩ := Ok.let_ h
      refine aw_iinc (n := 77) (al' := [some (.ref 21), some (.int v1_14)]) dX6_clear_74 rfl rfl e_v1_14 (by decide) rfl ?_
      refine aw_goto (tgt := 61) dX6_clear_77 (by decide) ?_
      exact aw_le' (hL61 (v1_14, D_13) (Ok.dn h :)) ⟨rfl, ⟨rfl, trivial⟩⟩
  refine aw_aload_n (n := 1) (i := 0) dX6_clear_0 rfl rfl rfl ?_
  refine aw_getR (n := 4) (j := 0) (r := 22) hG.1 fl_RX6_12 hs_21 rfl dX6_clear_1 rfl ?_
  refine aw_bipush (n := 6) (v := 6) dX6_clear_4 rfl (by decide) ?_
  refine aw_bipush (n := 8) (v := 6) dX6_clear_6 rfl (by decide) ?_
  refine aw_cVv (M := M_X6_clear) (n := 11) (As := [.int 6, .int 6]) (rest := []) hG.1 lk_RX6_51 rfl rfl hs_22 (c_X4_lay_22 hG (h := Ok.bind h) hs_22 hs_23 hs_24 hs_25) (by decide) (Nat.le_of_ble_eq_true rfl) (by decide) (by decide) dX6_clear_8 rfl (fun D_1 h => ?_)
  refine aw_aload_n (n := 12) (i := 0) dX6_clear_11 rfl rfl rfl ?_
  refine aw_iconst (n := 13) (v := 0) dX6_clear_12 rfl (by decide) ?_
  obtain ⟨D_2, e_D_2, h⟩ := Ok.let_ h
  refine aw_putI (n := 16) (j := 2) hG.1 fl_RX6_55 hs_21 rfl e_D_2 dX6_clear_13 rfl ?_
  refine aw_aload_n (n := 17) (i := 0) dX6_clear_16 rfl rfl rfl ?_
  refine aw_iconst (n := 18) (v := 0) dX6_clear_17 rfl (by decide) ?_
  obtain ⟨D_3, e_D_3, h⟩ := Ok.let_ h
  refine aw_putI (n := 21) (j := 3) hG.1 fl_RX6_59 hs_21 rfl e_D_3 dX6_clear_18 rfl ?_
  refine aw_aload_n (n := 22) (i := 0) dX6_clear_21 rfl rfl rfl ?_
  refine aw_iconst (n := 23) (v := 0) dX6_clear_22 rfl (by decide) ?_
  obtain ⟨D_4, e_D_4, h⟩ := Ok.let_ h
  refine aw_putI (n := 26) (j := 4) hG.1 fl_RX6_62 hs_21 rfl e_D_4 dX6_clear_23 rfl ?_
  refine aw_aload_n (n := 27) (i := 0) dX6_clear_26 rfl rfl rfl ?_
  refine aw_iconst (n := 28) (v := 0) dX6_clear_27 rfl (by decide) ?_
  obtain ⟨D_5, e_D_5, h⟩ := Ok.let_ h
  refine aw_putI (n := 31) (j := 5) hG.1 fl_RX6_65 hs_21 rfl e_D_5 dX6_clear_28 rfl ?_
  refine aw_aload_n (n := 32) (i := 0) dX6_clear_31 rfl rfl rfl ?_
  refine aw_iconst (n := 33) (v := 5) dX6_clear_32 rfl (by decide) ?_
  obtain ⟨D_6, e_D_6, h⟩ := Ok.let_ h
  refine aw_putI (n := 36) (j := 6) hG.1 fl_RX6_68 hs_21 rfl e_D_6 dX6_clear_33 rfl ?_
  refine aw_aload_n (n := 37) (i := 0) dX6_clear_36 rfl rfl rfl ?_
  refine aw_iconst (n := 38) (v := 2) dX6_clear_37 rfl (by decide) ?_
  obtain ⟨D_7, e_D_7, h⟩ := Ok.let_ h
  refine aw_putI (n := 41) (j := 7) hG.1 fl_RX6_71 hs_21 rfl e_D_7 dX6_clear_38 rfl ?_
  refine aw_aload_n (n := 42) (i := 0) dX6_clear_41 rfl rfl rfl ?_
  refine aw_iconst (n := 43) (v := 2) dX6_clear_42 rfl (by decide) ?_
  obtain ⟨D_8, e_D_8, h⟩ := Ok.let_ h
  refine aw_putI (n := 46) (j := 8) hG.1 fl_RX6_74 hs_21 rfl e_D_8 dX6_clear_43 rfl ?_
  refine aw_aload_n (n := 47) (i := 0) dX6_clear_46 rfl rfl rfl ?_
  refine aw_iconst (n := 48) (v := 0) dX6_clear_47 rfl (by decide) ?_
  obtain ⟨D_9, e_D_9, h⟩ := Ok.let_ h
  refine aw_putI (n := 51) (j := 9) hG.1 fl_RX6_77 hs_21 rfl e_D_9 dX6_clear_48 rfl ?_
  refine aw_aload_n (n := 52) (i := 0) dX6_clear_51 rfl rfl rfl ?_
  refine aw_getR (n := 55) (j := 14) (r := 31) hG.1 fl_RX6_37 hs_21 rfl dX6_clear_52 rfl ?_
  refine aw_iconst (n := 56) (v := 0) dX6_clear_55 rfl (by decide) ?_
  refine aw_cSv (M := M_X6_clear) (n := 59) (As := [.ref 31, .int 0]) (rest := []) lk_RX6_80 rfl rfl (c_J7_fill_53178 hG (h := Ok.bind h) hs_31) (by decide) (Nat.le_of_ble_eq_true rfl) (by decide) (by decide) dX6_clear_56 rfl (fun D_10 h => ?_)
  refine aw_iconst (n := 60) (v := 0) dX6_clear_59 rfl (by decide) ?_
  refine aw_istore_n (n := 61) (i := 1) (al' := [some (.ref 21), some (.int 0)]) dX6_clear_60 rfl rfl rfl (by decide) rfl ?_
  exact aw_le' (hJ_61 0 D_10 h) ⟨rfl, ⟨rfl, trivial⟩⟩
theorem dX9_reset_0 : decode cX9_reset 0 = .ok (.aload_n 0, 1) := by decide +kernel
theorem dX9_reset_1 : decode cX9_reset 1 = .ok (.getfield 9, 3) := by decide +kernel
theorem dX9_reset_4 : decode cX9_reset 4 = .ok (.iconst 0, 1) := by decide +kernel
theorem dX9_reset_5 : decode cX9_reset 5 = .ok (.invokestatic 36, 3) := by decide +kernel
theorem dX9_reset_8 : decode cX9_reset 8 = .ok (.iconst 0, 1) := by decide +kernel
theorem dX9_reset_9 : decode cX9_reset 9 = .ok (.istore_n 1, 1) := by decide +kernel
theorem dX9_reset_10 : decode cX9_reset 10 = .ok (.iload_n 1, 1) := by decide +kernel
theorem dX9_reset_11 : decode cX9_reset 11 = .ok (.iconst 5, 1) := by decide +kernel
theorem dX9_reset_12 : decode cX9_reset 12 = .ok (.if_icmp .ge 16, 3) := by decide +kernel
theorem dX9_reset_15 : decode cX9_reset 15 = .ok (.aload_n 0, 1) := by decide +kernel
theorem dX9_reset_16 : decode cX9_reset 16 = .ok (.getfield 15, 3) := by decide +kernel
theorem dX9_reset_19 : decode cX9_reset 19 = .ok (.iload_n 1, 1) := by decide +kernel
theorem dX9_reset_20 : decode cX9_reset 20 = .ok (.iload_n 1, 1) := by decide +kernel
theorem dX9_reset_21 : decode cX9_reset 21 = .ok (.iastore, 1) := by decide +kernel
theorem dX9_reset_22 : decode cX9_reset 22 = .ok (.iinc 1 1, 3) := by decide +kernel
theorem dX9_reset_25 : decode cX9_reset 25 = .ok (.goto (-15), 3) := by decide +kernel
theorem dX9_reset_28 : decode cX9_reset 28 = .ok (.aload_n 0, 1) := by decide +kernel
theorem dX9_reset_29 : decode cX9_reset 29 = .ok (.bipush 12, 2) := by decide +kernel
theorem dX9_reset_31 : decode cX9_reset 31 = .ok (.putfield 42, 3) := by decide +kernel
theorem dX9_reset_34 : decode cX9_reset 34 = .ok (.aload_n 0, 1) := by decide +kernel
theorem dX9_reset_35 : decode cX9_reset 35 = .ok (.iconst 0, 1) := by decide +kernel
theorem dX9_reset_36 : decode cX9_reset 36 = .ok (.putfield 46, 3) := by decide +kernel
theorem dX9_reset_39 : decode cX9_reset 39 = .ok (.aload_n 0, 1) := by decide +kernel
theorem dX9_reset_40 : decode cX9_reset 40 = .ok (.iconst 0, 1) := by decide +kernel
theorem dX9_reset_41 : decode cX9_reset 41 = .ok (.putfield 49, 3) := by decide +kernel
theorem dX9_reset_44 : decode cX9_reset 44 = .ok (.return_, 1) := by decide +kernel
def J_X9_reset_40_28 (D : aD) : Option (aD) :=
  aLet (pI D 40 2 12) (fun D_2 => aLet (pI D_2 40 3 0) (fun D_3 => aLet (pI D_3 40 4 0) (fun D_4 => some D_4)))
def B_X9_reset_40_10 (v1 : Int32) (D : aD) : Option ((Int32 × aD) ⊕ ((aD))) :=
  if 5 ≤ v1 then (some (.inr D)) else (aGd (aIn v1 5) (aLet (pI D 42 v1.toNatClampNeg v1) (fun D_6 => aLet (v1 + 1) (fun v1_7 => some (.inl (v1_7, D_6))))))
def J_X9_reset_40_10 (v1 : Int32) (D : aD) : Option (aD) :=
  (aLp (fun s => B_X9_reset_40_10 s.1 s.2) (v1, D)).bind (fun r => J_X9_reset_40_28 r)
def f_X9_reset_40 (D : aD) : Option (aD) :=
  (f_J7_fill_53178 41 12 0 D).bind (fun D_1 => J_X9_reset_40_10 0 D_1)
set_option maxRecDepth 100000 in
set_option maxHeartbeats 800000 in
theorem c_X9_reset_40 {G : aG} (hG : gOK G) {shp : List aSh} {fr : Option Nat} {D : aD} {K : aD → Prop} (h : Ok (f_X9_reset_40 D) K) (hs_40 : shp[40]? = some (.inr (9, [some (some 41), some (some 42), none, none, none, some (some 43), some (some 44), some (some 45), some (some 46), some (some 47)]))) (hs_41 : shp[41]? = some (.inl (1, 12, []))) (hs_42 : shp[42]? = some (.inl (1, 5, []))) : AC G (aRm 2 0 0) M_X9_reset [.ref 40] fr shp D (aQv shp K) := by
  unfold f_X9_reset_40 at h
  refine AC.of (al := [some (.ref 40), none]) (r := 1) (by decide) (Nat.le_of_ble_eq_true rfl) rfl ?_
  have hJ_28 : ∀ (D : aD), Ok (J_X9_reset_40_28 D) K → AW G (aRm 2 0 0) M_X9_reset fr 0 0 28 [some (.ref 40), none] [] shp D (aQv shp K) := by
    intro D h
    unfold J_X9_reset_40_28 at h
    refine aw_aload_n (n := 29) (i := 0) dX9_reset_28 rfl rfl rfl ?_
    refine aw_bipush (n := 31) (v := 12) dX9_reset_29 rfl (by decide) ?_
    obtain ⟨D_2, e_D_2, h⟩ := Ok.let_ h
    refine aw_putI (n := 34) (j := 2) hG.1 fl_RX9_42 hs_40 rfl e_D_2 dX9_reset_31 rfl ?_
    refine aw_aload_n (n := 35) (i := 0) dX9_reset_34 rfl rfl rfl ?_
    refine aw_iconst (n := 36) (v := 0) dX9_reset_35 rfl (by decide) ?_
    obtain ⟨D_3, e_D_3, h⟩ := Ok.let_ h
    refine aw_putI (n := 39) (j := 3) hG.1 fl_RX9_46 hs_40 rfl e_D_3 dX9_reset_36 rfl ?_
    refine aw_aload_n (n := 40) (i := 0) dX9_reset_39 rfl rfl rfl ?_
    refine aw_iconst (n := 41) (v := 0) dX9_reset_40 rfl (by decide) ?_
    obtain ⟨D_4, e_D_4, h⟩ := Ok.let_ h
    refine aw_putI (n := 44) (j := 4) hG.1 fl_RX9_49 hs_40 rfl e_D_4 dX9_reset_41 rfl ?_
    exact aw_vret rfl (by decide) (by decide) dX9_reset_44 ⟨rfl, rfl, (Ok.dn h :)⟩
  have hJ_10 : ∀ (v1 : Int32) (D : aD), Ok (J_X9_reset_40_10 v1 D) K → AW G (aRm 2 0 0) M_X9_reset fr 0 0 10 [some (.ref 40), some (.int v1)] [] shp D (aQv shp K) := by
    intro v1 D h
    unfold J_X9_reset_40_10 at h
    refine Ok.lp (P := fun s => AW G (aRm 2 0 0) M_X9_reset fr 0 0 10 [some (.ref 40), some (.int (s.1))] [] shp s.2 (aQv shp K)) (fun s Kb10 hL10 hR10 h => ?_) (v1, D) (Ok.bind h)
    obtain ⟨v1, D⟩ := s
    replace h : Ok (B_X9_reset_40_10 v1 D) Kb10 := h
    unfold B_X9_reset_40_10 at h
    refine aw_iload_n (n := 11) (i := 1) dX9_reset_10 rfl rfl rfl ?_
    refine aw_iconst (n := 12) (v := 5) dX9_reset_11 rfl (by decide) ?_
    refine aw_icmp_ge (n := 15) (tgt := 28) dX9_reset_12 rfl (by decide) (fun c => ?_) (fun c => ?_)
    · replace h := Ok.ift h c
      exact aw_le' (hJ_28 D (hR10 D (Ok.dn h :))) ⟨rfl, trivial⟩
    · replace h := Ok.iff h c
      refine aw_aload_n (n := 16) (i := 0) dX9_reset_15 rfl rfl rfl ?_
      refine aw_getR (n := 19) (j := 1) (r := 42) hG.1 fl_RX9_15 hs_40 rfl dX9_reset_16 rfl ?_
      refine aw_iload_n (n := 20) (i := 1) dX9_reset_19 rfl rfl rfl ?_
      refine aw_iload_n (n := 21) (i := 1) dX9_reset_20 rfl rfl rfl ?_
      obtain ⟨g_5, h⟩ := Ok.gd h
      obtain ⟨D_6, e_D_6, h⟩ := Ok.let_ h
      refine aw_iastore (n := 22) hG.1 hs_42 (aIn_in g_5) e_D_6 dX9_reset_21 rfl ?_
      obtain ⟨v1_7, e_v1_7, h⟩ := Ok.let_ h
      refine aw_iinc (n := 25) (al' := [some (.ref 40), some (.int v1_7)]) dX9_reset_22 rfl rfl e_v1_7 (by decide) rfl ?_
      refine aw_goto (tgt := 10) dX9_reset_25 (by decide) ?_
      exact aw_le' (hL10 (v1_7, D_6) (Ok.dn h :)) ⟨rfl, ⟨rfl, trivial⟩⟩
  refine aw_aload_n (n := 1) (i := 0) dX9_reset_0 rfl rfl rfl ?_
  refine aw_getR (n := 4) (j := 0) (r := 41) hG.1 fl_RX9_9 hs_40 rfl dX9_reset_1 rfl ?_
  refine aw_iconst (n := 5) (v := 0) dX9_reset_4 rfl (by decide) ?_
  refine aw_cSv (M := M_X9_reset) (n := 8) (As := [.ref 41, .int 0]) (rest := []) lk_RX9_36 rfl rfl (c_J7_fill_53178 hG (h := Ok.bind h) hs_41) (by decide) (Nat.le_of_ble_eq_true rfl) (by decide) (by decide) dX9_reset_5 rfl (fun D_1 h => ?_)
  refine aw_iconst (n := 9) (v := 0) dX9_reset_8 rfl (by decide) ?_
  refine aw_istore_n (n := 10) (i := 1) (al' := [some (.ref 40), some (.int 0)]) dX9_reset_9 rfl rfl rfl (by decide) rfl ?_
  exact aw_le' (hJ_10 0 D_1 h) ⟨rfl, ⟨rfl, trivial⟩⟩
def J_X9_reset_48_28 (D : aD) : Option (aD) :=
  aLet (pI D 48 2 12) (fun D_2 => aLet (pI D_2 48 3 0) (fun D_3 => aLet (pI D_3 48 4 0) (fun D_4 => some D_4)))
def B_X9_reset_48_10 (v1 : Int32) (D : aD) : Option ((Int32 × aD) ⊕ ((aD))) :=
  if 5 ≤ v1 then (some (.inr D)) else (aGd (aIn v1 5) (aLet (pI D 50 v1.toNatClampNeg v1) (fun D_6 => aLet (v1 + 1) (fun v1_7 => some (.inl (v1_7, D_6))))))
def J_X9_reset_48_10 (v1 : Int32) (D : aD) : Option (aD) :=
  (aLp (fun s => B_X9_reset_48_10 s.1 s.2) (v1, D)).bind (fun r => J_X9_reset_48_28 r)
def f_X9_reset_48 (D : aD) : Option (aD) :=
  (f_J7_fill_53178 49 12 0 D).bind (fun D_1 => J_X9_reset_48_10 0 D_1)
set_option maxRecDepth 100000 in
set_option maxHeartbeats 800000 in
theorem c_X9_reset_48 {G : aG} (hG : gOK G) {shp : List aSh} {fr : Option Nat} {D : aD} {K : aD → Prop} (h : Ok (f_X9_reset_48 D) K) (hs_48 : shp[48]? = some (.inr (9, [some (some 49), some (some 50), none, none, none, some (some 51), some (some 52), some (some 53), some (some 54), some (some 55)]))) (hs_49 : shp[49]? = some (.inl (1, 12, []))) (hs_50 : shp[50]? = some (.inl (1, 5, []))) : AC G (aRm 2 0 0) M_X9_reset [.ref 48] fr shp D (aQv shp K) := by
  unfold f_X9_reset_48 at h
  refine AC.of (al := [some (.ref 48), none]) (r := 1) (by decide) (Nat.le_of_ble_eq_true rfl) rfl ?_
  have hJ_28 : ∀ (D : aD), Ok (J_X9_reset_48_28 D) K → AW G (aRm 2 0 0) M_X9_reset fr 0 0 28 [some (.ref 48), none] [] shp D (aQv shp K) := by
    intro D h
    unfold J_X9_reset_48_28 at h
    refine aw_aload_n (n := 29) (i := 0) dX9_reset_28 rfl rfl rfl ?_
    refine aw_bipush (n := 31) (v := 12) dX9_reset_29 rfl (by decide) ?_
    obtain ⟨D_2, e_D_2, h⟩ := Ok.let_ h
    refine aw_putI (n := 34) (j := 2) hG.1 fl_RX9_42 hs_48 rfl e_D_2 dX9_reset_31 rfl ?_
    refine aw_aload_n (n := 35) (i := 0) dX9_reset_34 rfl rfl rfl ?_
    refine aw_iconst (n := 36) (v := 0) dX9_reset_35 rfl (by decide) ?_
    obtain ⟨D_3, e_D_3, h⟩ := Ok.let_ h
    refine aw_putI (n := 39) (j := 3) hG.1 fl_RX9_46 hs_48 rfl e_D_3 dX9_reset_36 rfl ?_
    refine aw_aload_n (n := 40) (i := 0) dX9_reset_39 rfl rfl rfl ?_
    refine aw_iconst (n := 41) (v := 0) dX9_reset_40 rfl (by decide) ?_
    obtain ⟨D_4, e_D_4, h⟩ := Ok.let_ h
    refine aw_putI (n := 44) (j := 4) hG.1 fl_RX9_49 hs_48 rfl e_D_4 dX9_reset_41 rfl ?_
    exact aw_vret rfl (by decide) (by decide) dX9_reset_44 ⟨rfl, rfl, (Ok.dn h :)⟩
  have hJ_10 : ∀ (v1 : Int32) (D : aD), Ok (J_X9_reset_48_10 v1 D) K → AW G (aRm 2 0 0) M_X9_reset fr 0 0 10 [some (.ref 48), some (.int v1)] [] shp D (aQv shp K) := by
    intro v1 D h
    unfold J_X9_reset_48_10 at h
    refine Ok.lp (P := fun s => AW G (aRm 2 0 0) M_X9_reset fr 0 0 10 [some (.ref 48), some (.int (s.1))] [] shp s.2 (aQv shp K)) (fun s Kb10 hL10 hR10 h => ?_) (v1, D) (Ok.bind h)
    obtain ⟨v1, D⟩ := s
    replace h : Ok (B_X9_reset_48_10 v1 D) Kb10 := h
    unfold B_X9_reset_48_10 at h
    refine aw_iload_n (n := 11) (i := 1) dX9_reset_10 rfl rfl rfl ?_
    refine aw_iconst (n := 12) (v := 5) dX9_reset_11 rfl (by decide) ?_
    refine aw_icmp_ge (n := 15) (tgt := 28) dX9_reset_12 rfl (by decide) (fun c => ?_) (fun c => ?_)
    · replace h := Ok.ift h c
      exact aw_le' (hJ_28 D (hR10 D (Ok.dn h :))) ⟨rfl, trivial⟩
    · replace h := Ok.iff h c
      refine aw_aload_n (n := 16) (i := 0) dX9_reset_15 rfl rfl rfl ?_
      refine aw_getR (n := 19) (j := 1) (r := 50) hG.1 fl_RX9_15 hs_48 rfl dX9_reset_16 rfl ?_
      refine aw_iload_n (n := 20) (i := 1) dX9_reset_19 rfl rfl rfl ?_
      refine aw_iload_n (n := 21) (i := 1) dX9_reset_20 rfl rfl rfl ?_
      obtain ⟨g_5, h⟩ := Ok.gd h
      obtain ⟨D_6, e_D_6, h⟩ := Ok.let_ h
      refine aw_iastore (n := 22) hG.1 hs_50 (aIn_in g_5) e_D_6 dX9_reset_21 rfl ?_
      obtain ⟨v1_7, e_v1_7, h⟩ := Ok.let_ h
      refine aw_iinc (n := 25) (al' := [some (.ref 48), some (.int v1_7)]) dX9_reset_22 rfl rfl e_v1_7 (by decide) rfl ?_
      refine aw_goto (tgt := 10) dX9_reset_25 (by decide) ?_
      exact aw_le' (hL10 (v1_7, D_6) (Ok.dn h :)) ⟨rfl, ⟨rfl, trivial⟩⟩
  refine aw_aload_n (n := 1) (i := 0) dX9_reset_0 rfl rfl rfl ?_
  refine aw_getR (n := 4) (j := 0) (r := 49) hG.1 fl_RX9_9 hs_48 rfl dX9_reset_1 rfl ?_
  refine aw_iconst (n := 5) (v := 0) dX9_reset_4 rfl (by decide) ?_
  refine aw_cSv (M := M_X9_reset) (n := 8) (As := [.ref 49, .int 0]) (rest := []) lk_RX9_36 rfl rfl (c_J7_fill_53178 hG (h := Ok.bind h) hs_49) (by decide) (Nat.le_of_ble_eq_true rfl) (by decide) (by decide) dX9_reset_5 rfl (fun D_1 h => ?_)
  refine aw_iconst (n := 9) (v := 0) dX9_reset_8 rfl (by decide) ?_
  refine aw_istore_n (n := 10) (i := 1) (al' := [some (.ref 48), some (.int 0)]) dX9_reset_9 rfl rfl rfl (by decide) rfl ?_
  exact aw_le' (hJ_10 0 D_1 h) ⟨rfl, ⟨rfl, trivial⟩⟩
theorem dX4_copyFrom_0 : decode cX4_copyFrom 0 = .ok (.aload_n 0, 1) := by decide +kernel
theorem dX4_copyFrom_1 : decode cX4_copyFrom 1 = .ok (.aload_n 1, 1) := by decide +kernel
theorem dX4_copyFrom_2 : decode cX4_copyFrom 2 = .ok (.getfield 22, 3) := by decide +kernel
theorem dX4_copyFrom_5 : decode cX4_copyFrom 5 = .ok (.aload_n 1, 1) := by decide +kernel
theorem dX4_copyFrom_6 : decode cX4_copyFrom 6 = .ok (.getfield 26, 3) := by decide +kernel
theorem dX4_copyFrom_9 : decode cX4_copyFrom 9 = .ok (.invokevirtual 38, 3) := by decide +kernel
theorem dX4_copyFrom_12 : decode cX4_copyFrom 12 = .ok (.iconst 0, 1) := by decide +kernel
theorem dX4_copyFrom_13 : decode cX4_copyFrom 13 = .ok (.istore_n 2, 1) := by decide +kernel
theorem dX4_copyFrom_14 : decode cX4_copyFrom 14 = .ok (.iload_n 2, 1) := by decide +kernel
theorem dX4_copyFrom_15 : decode cX4_copyFrom 15 = .ok (.bipush 64, 2) := by decide +kernel
theorem dX4_copyFrom_17 : decode cX4_copyFrom 17 = .ok (.if_icmp .ge 21, 3) := by decide +kernel
theorem dX4_copyFrom_20 : decode cX4_copyFrom 20 = .ok (.aload_n 0, 1) := by decide +kernel
theorem dX4_copyFrom_21 : decode cX4_copyFrom 21 = .ok (.getfield 18, 3) := by decide +kernel
theorem dX4_copyFrom_24 : decode cX4_copyFrom 24 = .ok (.iload_n 2, 1) := by decide +kernel
theorem dX4_copyFrom_25 : decode cX4_copyFrom 25 = .ok (.aload_n 1, 1) := by decide +kernel
theorem dX4_copyFrom_26 : decode cX4_copyFrom 26 = .ok (.getfield 18, 3) := by decide +kernel
theorem dX4_copyFrom_29 : decode cX4_copyFrom 29 = .ok (.iload_n 2, 1) := by decide +kernel
theorem dX4_copyFrom_30 : decode cX4_copyFrom 30 = .ok (.baload, 1) := by decide +kernel
theorem dX4_copyFrom_31 : decode cX4_copyFrom 31 = .ok (.bastore, 1) := by decide +kernel
theorem dX4_copyFrom_32 : decode cX4_copyFrom 32 = .ok (.iinc 2 1, 3) := by decide +kernel
theorem dX4_copyFrom_35 : decode cX4_copyFrom 35 = .ok (.goto (-21), 3) := by decide +kernel
theorem dX4_copyFrom_38 : decode cX4_copyFrom 38 = .ok (.return_, 1) := by decide +kernel
def J_X4_copyFrom_38 (D : aD) : Option (aD) :=
  some D
def B_X4_copyFrom_14 (v2 : Int32) (D : aD) : Option ((Int32 × aD) ⊕ ((aD))) :=
  if 64 ≤ v2 then (some (.inr D)) else (aGd (aIn v2 64) (aGd (aIn v2 64) (aGd (aZ (gI D 25 v2.toNatClampNeg)) (aLet (pI D 6 v2.toNatClampNeg (gI D 25 v2.toNatClampNeg)) (fun D_5 => aLet (v2 + 1) (fun v2_6 => some (.inl (v2_6, D_5))))))))
def J_X4_copyFrom_14 (v2 : Int32) (D : aD) : Option (aD) :=
  (aLp (fun s => B_X4_copyFrom_14 s.1 s.2) (v2, D)).bind (fun r => J_X4_copyFrom_38 r)
def f_X4_copyFrom (D : aD) : Option (aD) :=
  (f_X4_lay_3 (gI D 22 0) (gI D 22 1) D).bind (fun D_1 => J_X4_copyFrom_14 0 D_1)
set_option maxRecDepth 100000 in
set_option maxHeartbeats 800000 in
theorem c_X4_copyFrom {G : aG} (hG : gOK G) {shp : List aSh} (hS : aShp shp) {fr : Option Nat} {D : aD} {K : aD → Prop} (h : Ok (f_X4_copyFrom D) K) : AC G (aRm 3 0 0) M_X4_copyFrom [.ref 3, .ref 22] fr shp D (aQv shp K) := by
  unfold f_X4_copyFrom at h
  refine AC.of (al := [some (.ref 3), some (.ref 22), none]) (r := 1) (by decide) (Nat.le_of_ble_eq_true rfl) rfl ?_
  have hJ_38 : ∀ (D : aD), Ok (J_X4_copyFrom_38 D) K → AW G (aRm 3 0 0) M_X4_copyFrom fr 0 0 38 [none, none, none] [] shp D (aQv shp K) := by
    intro D h
    unfold J_X4_copyFrom_38 at h
    exact aw_vret rfl (by decide) (by decide) dX4_copyFrom_38 ⟨rfl, rfl, (Ok.dn h :)⟩
  have hJ_14 : ∀ (v2 : Int32) (D : aD), Ok (J_X4_copyFrom_14 v2 D) K → AW G (aRm 3 0 0) M_X4_copyFrom fr 0 0 14 [some (.ref 3), some (.ref 22), some (.int v2)] [] shp D (aQv shp K) := by
    intro v2 D h
    unfold J_X4_copyFrom_14 at h
    refine Ok.lp (P := fun s => AW G (aRm 3 0 0) M_X4_copyFrom fr 0 0 14 [some (.ref 3), some (.ref 22), some (.int (s.1))] [] shp s.2 (aQv shp K)) (fun s Kb14 hL14 hR14 h => ?_) (v2, D) (Ok.bind h)
    obtain ⟨v2, D⟩ := s
    replace h : Ok (B_X4_copyFrom_14 v2 D) Kb14 := h
    unfold B_X4_copyFrom_14 at h
    refine aw_iload_n (n := 15) (i := 2) dX4_copyFrom_14 rfl rfl rfl ?_
    refine aw_bipush (n := 17) (v := 64) dX4_copyFrom_15 rfl (by decide) ?_
    refine aw_icmp_ge (n := 20) (tgt := 38) dX4_copyFrom_17 rfl (by decide) (fun c => ?_) (fun c => ?_)
    · replace h := Ok.ift h c
      exact aw_le' (hJ_38 D (hR14 D (Ok.dn h :))) trivial
    · replace h := Ok.iff h c
      refine aw_aload_n (n := 21) (i := 0) dX4_copyFrom_20 rfl rfl rfl ?_
      refine aw_getR (n := 24) (j := 4) (r := 6) hG.1 fl_RX4_18 (sF_3 hS) rfl dX4_copyFrom_21 rfl ?_
      refine aw_iload_n (n := 25) (i := 2) dX4_copyFrom_24 rfl rfl rfl ?_
      refine aw_aload_n (n := 26) (i := 1) dX4_copyFrom_25 rfl rfl rfl ?_
      refine aw_getR (n := 29) (j := 4) (r := 25) hG.1 fl_RX4_18 (sF_22 hS) rfl dX4_copyFrom_26 rfl ?_
      refine aw_iload_n (n := 30) (i := 2) dX4_copyFrom_29 rfl rfl rfl ?_
      obtain ⟨g_2, h⟩ := Ok.gd h
      refine aw_zaload (n := 31) hG.1 (sF_25 hS) (aIn_in g_2) dX4_copyFrom_30 rfl ?_
      obtain ⟨g_3, h⟩ := Ok.gd h
      obtain ⟨g_4, h⟩ := Ok.gd h
      obtain ⟨D_5, e_D_5, h⟩ := Ok.let_ h
      refine aw_zastore (n := 32) hG.1 (aZ_or g_4) (sF_6 hS) (aIn_in g_3) e_D_5 dX4_copyFrom_31 rfl ?_
      obtain ⟨v2_6, e_v2_6, h⟩ := Ok.let_ h
      refine aw_iinc (n := 35) (al' := [some (.ref 3), some (.ref 22), some (.int v2_6)]) dX4_copyFrom_32 rfl rfl e_v2_6 (by decide) rfl ?_
      refine aw_goto (tgt := 14) dX4_copyFrom_35 (by decide) ?_
      exact aw_le' (hL14 (v2_6, D_5) (Ok.dn h :)) ⟨rfl, ⟨rfl, ⟨rfl, trivial⟩⟩⟩
  refine aw_aload_n (n := 1) (i := 0) dX4_copyFrom_0 rfl rfl rfl ?_
  refine aw_aload_n (n := 2) (i := 1) dX4_copyFrom_1 rfl rfl rfl ?_
  refine aw_getI (n := 5) (j := 0) hG.1 fl_RX4_22 (sF_22 hS) rfl dX4_copyFrom_2 rfl ?_
  refine aw_aload_n (n := 6) (i := 1) dX4_copyFrom_5 rfl rfl rfl ?_
  refine aw_getI (n := 9) (j := 1) hG.1 fl_RX4_26 (sF_22 hS) rfl dX4_copyFrom_6 rfl ?_
  refine aw_cVv (M := M_X4_copyFrom) (n := 12) (As := [.int (gI D 22 0), .int (gI D 22 1)]) (rest := []) hG.1 lk_RX4_38 rfl rfl (sF_3 hS) (c_X4_lay_3 hG (h := Ok.bind h) (sF_3 hS) (sF_4 hS) (sF_5 hS) (sF_6 hS)) (by decide) (Nat.le_of_ble_eq_true rfl) (by decide) (by decide) dX4_copyFrom_9 rfl (fun D_1 h => ?_)
  refine aw_iconst (n := 13) (v := 0) dX4_copyFrom_12 rfl (by decide) ?_
  refine aw_istore_n (n := 14) (i := 2) (al' := [some (.ref 3), some (.ref 22), some (.int 0)]) dX4_copyFrom_13 rfl rfl rfl (by decide) rfl ?_
  exact aw_le' (hJ_14 0 D_1 h) ⟨rfl, ⟨rfl, ⟨rfl, trivial⟩⟩⟩
theorem dX8_copyFrom_0 : decode cX8_copyFrom 0 = .ok (.aload_n 0, 1) := by decide +kernel
theorem dX8_copyFrom_1 : decode cX8_copyFrom 1 = .ok (.aload_n 1, 1) := by decide +kernel
theorem dX8_copyFrom_2 : decode cX8_copyFrom 2 = .ok (.getfield 22, 3) := by decide +kernel
theorem dX8_copyFrom_5 : decode cX8_copyFrom 5 = .ok (.putfield 22, 3) := by decide +kernel
theorem dX8_copyFrom_8 : decode cX8_copyFrom 8 = .ok (.aload_n 0, 1) := by decide +kernel
theorem dX8_copyFrom_9 : decode cX8_copyFrom 9 = .ok (.aload_n 1, 1) := by decide +kernel
theorem dX8_copyFrom_10 : decode cX8_copyFrom 10 = .ok (.getfield 7, 3) := by decide +kernel
theorem dX8_copyFrom_13 : decode cX8_copyFrom 13 = .ok (.putfield 7, 3) := by decide +kernel
theorem dX8_copyFrom_16 : decode cX8_copyFrom 16 = .ok (.aload_n 0, 1) := by decide +kernel
theorem dX8_copyFrom_17 : decode cX8_copyFrom 17 = .ok (.aload_n 1, 1) := by decide +kernel
theorem dX8_copyFrom_18 : decode cX8_copyFrom 18 = .ok (.getfield 13, 3) := by decide +kernel
theorem dX8_copyFrom_21 : decode cX8_copyFrom 21 = .ok (.putfield 13, 3) := by decide +kernel
theorem dX8_copyFrom_24 : decode cX8_copyFrom 24 = .ok (.aload_n 0, 1) := by decide +kernel
theorem dX8_copyFrom_25 : decode cX8_copyFrom 25 = .ok (.aload_n 1, 1) := by decide +kernel
theorem dX8_copyFrom_26 : decode cX8_copyFrom 26 = .ok (.getfield 16, 3) := by decide +kernel
theorem dX8_copyFrom_29 : decode cX8_copyFrom 29 = .ok (.putfield 16, 3) := by decide +kernel
theorem dX8_copyFrom_32 : decode cX8_copyFrom 32 = .ok (.aload_n 0, 1) := by decide +kernel
theorem dX8_copyFrom_33 : decode cX8_copyFrom 33 = .ok (.aload_n 1, 1) := by decide +kernel
theorem dX8_copyFrom_34 : decode cX8_copyFrom 34 = .ok (.getfield 19, 3) := by decide +kernel
theorem dX8_copyFrom_37 : decode cX8_copyFrom 37 = .ok (.putfield 19, 3) := by decide +kernel
theorem dX8_copyFrom_40 : decode cX8_copyFrom 40 = .ok (.aload_n 0, 1) := by decide +kernel
theorem dX8_copyFrom_41 : decode cX8_copyFrom 41 = .ok (.aload_n 1, 1) := by decide +kernel
theorem dX8_copyFrom_42 : decode cX8_copyFrom 42 = .ok (.getfield 25, 3) := by decide +kernel
theorem dX8_copyFrom_45 : decode cX8_copyFrom 45 = .ok (.putfield 25, 3) := by decide +kernel
theorem dX8_copyFrom_48 : decode cX8_copyFrom 48 = .ok (.aload_n 0, 1) := by decide +kernel
theorem dX8_copyFrom_49 : decode cX8_copyFrom 49 = .ok (.aload_n 1, 1) := by decide +kernel
theorem dX8_copyFrom_50 : decode cX8_copyFrom 50 = .ok (.getfield 28, 3) := by decide +kernel
theorem dX8_copyFrom_53 : decode cX8_copyFrom 53 = .ok (.putfield 28, 3) := by decide +kernel
theorem dX8_copyFrom_56 : decode cX8_copyFrom 56 = .ok (.return_, 1) := by decide +kernel
def f_X8_copyFrom (q0 : Nat) (q1 : Nat) (D : aD) : Option (aD) :=
  aLet (pI D q0 0 (gI D q1 0)) (fun D_1 => aLet (pI D_1 q0 1 (gI D_1 q1 1)) (fun D_2 => aLet (pI D_2 q0 2 (gI D_2 q1 2)) (fun D_3 => aLet (pI D_3 q0 3 (gI D_3 q1 3)) (fun D_4 => aLet (pI D_4 q0 4 (gI D_4 q1 4)) (fun D_5 => aLet (pI D_5 q0 5 (gI D_5 q1 5)) (fun D_6 => aGd (aZ (gI D_6 q1 6)) (aLet (pI D_6 q0 6 (gI D_6 q1 6)) (fun D_8 => some D_8))))))))
set_option maxRecDepth 100000 in
set_option maxHeartbeats 800000 in
theorem c_X8_copyFrom {G : aG} (hG : gOK G) {shp : List aSh} (hS : aShp shp) {fr : Option Nat} {q0 : Nat} {q1 : Nat} {D : aD} {K : aD → Prop} (h : Ok (f_X8_copyFrom q0 q1 D) K) (hq0 : shp[q0]? = some (.inr (8, [none, none, none, none, none, none, none]))) (hq1 : shp[q1]? = some (.inr (8, [none, none, none, none, none, none, none]))) : AC G (aRm 1 0 0) M_X8_copyFrom [.ref q0, .ref q1] fr shp D (aQv shp K) := by
  unfold f_X8_copyFrom at h
  refine AC.of (al := [some (.ref q0), some (.ref q1)]) (r := 0) (by decide) (Nat.le_of_ble_eq_true rfl) rfl ?_
  refine aw_aload_n (n := 1) (i := 0) dX8_copyFrom_0 rfl rfl rfl ?_
  refine aw_aload_n (n := 2) (i := 1) dX8_copyFrom_1 rfl rfl rfl ?_
  refine aw_getI (n := 5) (j := 0) hG.1 fl_RX8_22 hq1 rfl dX8_copyFrom_2 rfl ?_
  obtain ⟨D_1, e_D_1, h⟩ := Ok.let_ h
  refine aw_putI (n := 8) (j := 0) hG.1 fl_RX8_22 hq0 rfl e_D_1 dX8_copyFrom_5 rfl ?_
  refine aw_aload_n (n := 9) (i := 0) dX8_copyFrom_8 rfl rfl rfl ?_
  refine aw_aload_n (n := 10) (i := 1) dX8_copyFrom_9 rfl rfl rfl ?_
  refine aw_getI (n := 13) (j := 1) hG.1 fl_RX8_7 hq1 rfl dX8_copyFrom_10 rfl ?_
  obtain ⟨D_2, e_D_2, h⟩ := Ok.let_ h
  refine aw_putI (n := 16) (j := 1) hG.1 fl_RX8_7 hq0 rfl e_D_2 dX8_copyFrom_13 rfl ?_
  refine aw_aload_n (n := 17) (i := 0) dX8_copyFrom_16 rfl rfl rfl ?_
  refine aw_aload_n (n := 18) (i := 1) dX8_copyFrom_17 rfl rfl rfl ?_
  refine aw_getI (n := 21) (j := 2) hG.1 fl_RX8_13 hq1 rfl dX8_copyFrom_18 rfl ?_
  obtain ⟨D_3, e_D_3, h⟩ := Ok.let_ h
  refine aw_putI (n := 24) (j := 2) hG.1 fl_RX8_13 hq0 rfl e_D_3 dX8_copyFrom_21 rfl ?_
  refine aw_aload_n (n := 25) (i := 0) dX8_copyFrom_24 rfl rfl rfl ?_
  refine aw_aload_n (n := 26) (i := 1) dX8_copyFrom_25 rfl rfl rfl ?_
  refine aw_getI (n := 29) (j := 3) hG.1 fl_RX8_16 hq1 rfl dX8_copyFrom_26 rfl ?_
  obtain ⟨D_4, e_D_4, h⟩ := Ok.let_ h
  refine aw_putI (n := 32) (j := 3) hG.1 fl_RX8_16 hq0 rfl e_D_4 dX8_copyFrom_29 rfl ?_
  refine aw_aload_n (n := 33) (i := 0) dX8_copyFrom_32 rfl rfl rfl ?_
  refine aw_aload_n (n := 34) (i := 1) dX8_copyFrom_33 rfl rfl rfl ?_
  refine aw_getI (n := 37) (j := 4) hG.1 fl_RX8_19 hq1 rfl dX8_copyFrom_34 rfl ?_
  obtain ⟨D_5, e_D_5, h⟩ := Ok.let_ h
  refine aw_putI (n := 40) (j := 4) hG.1 fl_RX8_19 hq0 rfl e_D_5 dX8_copyFrom_37 rfl ?_
  refine aw_aload_n (n := 41) (i := 0) dX8_copyFrom_40 rfl rfl rfl ?_
  refine aw_aload_n (n := 42) (i := 1) dX8_copyFrom_41 rfl rfl rfl ?_
  refine aw_getI (n := 45) (j := 5) hG.1 fl_RX8_25 hq1 rfl dX8_copyFrom_42 rfl ?_
  obtain ⟨D_6, e_D_6, h⟩ := Ok.let_ h
  refine aw_putI (n := 48) (j := 5) hG.1 fl_RX8_25 hq0 rfl e_D_6 dX8_copyFrom_45 rfl ?_
  refine aw_aload_n (n := 49) (i := 0) dX8_copyFrom_48 rfl rfl rfl ?_
  refine aw_aload_n (n := 50) (i := 1) dX8_copyFrom_49 rfl rfl rfl ?_
  refine aw_getI (n := 53) (j := 6) hG.1 fl_RX8_28 hq1 rfl dX8_copyFrom_50 rfl ?_
  obtain ⟨g_7, h⟩ := Ok.gd h
  obtain ⟨D_8, e_D_8, h⟩ := Ok.let_ h
  refine aw_putZ (n := 56) (j := 6) hG.1 fl_RX8_28 (aZ_or g_7) hq0 rfl e_D_8 dX8_copyFrom_53 rfl ?_
  exact aw_vret rfl (by decide) (by decide) dX8_copyFrom_56 ⟨rfl, rfl, (Ok.dn h :)⟩
theorem dX6_copyFrom_0 : decode cX6_copyFrom 0 = .ok (.aload_n 0, 1) := by decide +kernel
theorem dX6_copyFrom_1 : decode cX6_copyFrom 1 = .ok (.getfield 12, 3) := by decide +kernel
theorem dX6_copyFrom_4 : decode cX6_copyFrom 4 = .ok (.aload_n 1, 1) := by decide +kernel
theorem dX6_copyFrom_5 : decode cX6_copyFrom 5 = .ok (.getfield 12, 3) := by decide +kernel
theorem dX6_copyFrom_8 : decode cX6_copyFrom 8 = .ok (.invokevirtual 86, 3) := by decide +kernel
theorem dX6_copyFrom_11 : decode cX6_copyFrom 11 = .ok (.aload_n 0, 1) := by decide +kernel
theorem dX6_copyFrom_12 : decode cX6_copyFrom 12 = .ok (.aload_n 1, 1) := by decide +kernel
theorem dX6_copyFrom_13 : decode cX6_copyFrom 13 = .ok (.getfield 55, 3) := by decide +kernel
theorem dX6_copyFrom_16 : decode cX6_copyFrom 16 = .ok (.putfield 55, 3) := by decide +kernel
theorem dX6_copyFrom_19 : decode cX6_copyFrom 19 = .ok (.aload_n 0, 1) := by decide +kernel
theorem dX6_copyFrom_20 : decode cX6_copyFrom 20 = .ok (.aload_n 1, 1) := by decide +kernel
theorem dX6_copyFrom_21 : decode cX6_copyFrom 21 = .ok (.getfield 59, 3) := by decide +kernel
theorem dX6_copyFrom_24 : decode cX6_copyFrom 24 = .ok (.putfield 59, 3) := by decide +kernel
theorem dX6_copyFrom_27 : decode cX6_copyFrom 27 = .ok (.aload_n 0, 1) := by decide +kernel
theorem dX6_copyFrom_28 : decode cX6_copyFrom 28 = .ok (.aload_n 1, 1) := by decide +kernel
theorem dX6_copyFrom_29 : decode cX6_copyFrom 29 = .ok (.getfield 62, 3) := by decide +kernel
theorem dX6_copyFrom_32 : decode cX6_copyFrom 32 = .ok (.putfield 62, 3) := by decide +kernel
theorem dX6_copyFrom_35 : decode cX6_copyFrom 35 = .ok (.aload_n 0, 1) := by decide +kernel
theorem dX6_copyFrom_36 : decode cX6_copyFrom 36 = .ok (.aload_n 1, 1) := by decide +kernel
theorem dX6_copyFrom_37 : decode cX6_copyFrom 37 = .ok (.getfield 65, 3) := by decide +kernel
theorem dX6_copyFrom_40 : decode cX6_copyFrom 40 = .ok (.putfield 65, 3) := by decide +kernel
theorem dX6_copyFrom_43 : decode cX6_copyFrom 43 = .ok (.aload_n 0, 1) := by decide +kernel
theorem dX6_copyFrom_44 : decode cX6_copyFrom 44 = .ok (.aload_n 1, 1) := by decide +kernel
theorem dX6_copyFrom_45 : decode cX6_copyFrom 45 = .ok (.getfield 68, 3) := by decide +kernel
theorem dX6_copyFrom_48 : decode cX6_copyFrom 48 = .ok (.putfield 68, 3) := by decide +kernel
theorem dX6_copyFrom_51 : decode cX6_copyFrom 51 = .ok (.aload_n 0, 1) := by decide +kernel
theorem dX6_copyFrom_52 : decode cX6_copyFrom 52 = .ok (.aload_n 1, 1) := by decide +kernel
theorem dX6_copyFrom_53 : decode cX6_copyFrom 53 = .ok (.getfield 71, 3) := by decide +kernel
theorem dX6_copyFrom_56 : decode cX6_copyFrom 56 = .ok (.putfield 71, 3) := by decide +kernel
theorem dX6_copyFrom_59 : decode cX6_copyFrom 59 = .ok (.aload_n 0, 1) := by decide +kernel
theorem dX6_copyFrom_60 : decode cX6_copyFrom 60 = .ok (.aload_n 1, 1) := by decide +kernel
theorem dX6_copyFrom_61 : decode cX6_copyFrom 61 = .ok (.getfield 74, 3) := by decide +kernel
theorem dX6_copyFrom_64 : decode cX6_copyFrom 64 = .ok (.putfield 74, 3) := by decide +kernel
theorem dX6_copyFrom_67 : decode cX6_copyFrom 67 = .ok (.aload_n 0, 1) := by decide +kernel
theorem dX6_copyFrom_68 : decode cX6_copyFrom 68 = .ok (.aload_n 1, 1) := by decide +kernel
theorem dX6_copyFrom_69 : decode cX6_copyFrom 69 = .ok (.getfield 77, 3) := by decide +kernel
theorem dX6_copyFrom_72 : decode cX6_copyFrom 72 = .ok (.putfield 77, 3) := by decide +kernel
theorem dX6_copyFrom_75 : decode cX6_copyFrom 75 = .ok (.iconst 0, 1) := by decide +kernel
theorem dX6_copyFrom_76 : decode cX6_copyFrom 76 = .ok (.istore_n 2, 1) := by decide +kernel
theorem dX6_copyFrom_77 : decode cX6_copyFrom 77 = .ok (.iload_n 2, 1) := by decide +kernel
theorem dX6_copyFrom_78 : decode cX6_copyFrom 78 = .ok (.bipush 6, 2) := by decide +kernel
theorem dX6_copyFrom_80 : decode cX6_copyFrom 80 = .ok (.if_icmp .ge 36, 3) := by decide +kernel
theorem dX6_copyFrom_83 : decode cX6_copyFrom 83 = .ok (.aload_n 0, 1) := by decide +kernel
theorem dX6_copyFrom_84 : decode cX6_copyFrom 84 = .ok (.getfield 20, 3) := by decide +kernel
theorem dX6_copyFrom_87 : decode cX6_copyFrom 87 = .ok (.iload_n 2, 1) := by decide +kernel
theorem dX6_copyFrom_88 : decode cX6_copyFrom 88 = .ok (.aaload, 1) := by decide +kernel
theorem dX6_copyFrom_89 : decode cX6_copyFrom 89 = .ok (.aload_n 1, 1) := by decide +kernel
theorem dX6_copyFrom_90 : decode cX6_copyFrom 90 = .ok (.getfield 20, 3) := by decide +kernel
theorem dX6_copyFrom_93 : decode cX6_copyFrom 93 = .ok (.iload_n 2, 1) := by decide +kernel
theorem dX6_copyFrom_94 : decode cX6_copyFrom 94 = .ok (.aaload, 1) := by decide +kernel
theorem dX6_copyFrom_95 : decode cX6_copyFrom 95 = .ok (.invokevirtual 90, 3) := by decide +kernel
theorem dX6_copyFrom_98 : decode cX6_copyFrom 98 = .ok (.aload_n 0, 1) := by decide +kernel
theorem dX6_copyFrom_99 : decode cX6_copyFrom 99 = .ok (.getfield 40, 3) := by decide +kernel
theorem dX6_copyFrom_102 : decode cX6_copyFrom 102 = .ok (.iload_n 2, 1) := by decide +kernel
theorem dX6_copyFrom_103 : decode cX6_copyFrom 103 = .ok (.aload_n 1, 1) := by decide +kernel
theorem dX6_copyFrom_104 : decode cX6_copyFrom 104 = .ok (.getfield 40, 3) := by decide +kernel
theorem dX6_copyFrom_107 : decode cX6_copyFrom 107 = .ok (.iload_n 2, 1) := by decide +kernel
theorem dX6_copyFrom_108 : decode cX6_copyFrom 108 = .ok (.baload, 1) := by decide +kernel
theorem dX6_copyFrom_109 : decode cX6_copyFrom 109 = .ok (.bastore, 1) := by decide +kernel
theorem dX6_copyFrom_110 : decode cX6_copyFrom 110 = .ok (.iinc 2 1, 3) := by decide +kernel
theorem dX6_copyFrom_113 : decode cX6_copyFrom 113 = .ok (.goto (-36), 3) := by decide +kernel
theorem dX6_copyFrom_116 : decode cX6_copyFrom 116 = .ok (.aload_n 1, 1) := by decide +kernel
theorem dX6_copyFrom_117 : decode cX6_copyFrom 117 = .ok (.getfield 24, 3) := by decide +kernel
theorem dX6_copyFrom_120 : decode cX6_copyFrom 120 = .ok (.iconst 0, 1) := by decide +kernel
theorem dX6_copyFrom_121 : decode cX6_copyFrom 121 = .ok (.aload_n 0, 1) := by decide +kernel
theorem dX6_copyFrom_122 : decode cX6_copyFrom 122 = .ok (.getfield 24, 3) := by decide +kernel
theorem dX6_copyFrom_125 : decode cX6_copyFrom 125 = .ok (.iconst 0, 1) := by decide +kernel
theorem dX6_copyFrom_126 : decode cX6_copyFrom 126 = .ok (.bipush 12, 2) := by decide +kernel
theorem dX6_copyFrom_128 : decode cX6_copyFrom 128 = .ok (.invokestatic 93, 3) := by decide +kernel
theorem dX6_copyFrom_131 : decode cX6_copyFrom 131 = .ok (.aload_n 1, 1) := by decide +kernel
theorem dX6_copyFrom_132 : decode cX6_copyFrom 132 = .ok (.getfield 28, 3) := by decide +kernel
theorem dX6_copyFrom_135 : decode cX6_copyFrom 135 = .ok (.iconst 0, 1) := by decide +kernel
theorem dX6_copyFrom_136 : decode cX6_copyFrom 136 = .ok (.aload_n 0, 1) := by decide +kernel
theorem dX6_copyFrom_137 : decode cX6_copyFrom 137 = .ok (.getfield 28, 3) := by decide +kernel
theorem dX6_copyFrom_140 : decode cX6_copyFrom 140 = .ok (.iconst 0, 1) := by decide +kernel
theorem dX6_copyFrom_141 : decode cX6_copyFrom 141 = .ok (.bipush 12, 2) := by decide +kernel
theorem dX6_copyFrom_143 : decode cX6_copyFrom 143 = .ok (.invokestatic 93, 3) := by decide +kernel
theorem dX6_copyFrom_146 : decode cX6_copyFrom 146 = .ok (.aload_n 1, 1) := by decide +kernel
theorem dX6_copyFrom_147 : decode cX6_copyFrom 147 = .ok (.getfield 31, 3) := by decide +kernel
theorem dX6_copyFrom_150 : decode cX6_copyFrom 150 = .ok (.iconst 0, 1) := by decide +kernel
theorem dX6_copyFrom_151 : decode cX6_copyFrom 151 = .ok (.aload_n 0, 1) := by decide +kernel
theorem dX6_copyFrom_152 : decode cX6_copyFrom 152 = .ok (.getfield 31, 3) := by decide +kernel
theorem dX6_copyFrom_155 : decode cX6_copyFrom 155 = .ok (.iconst 0, 1) := by decide +kernel
theorem dX6_copyFrom_156 : decode cX6_copyFrom 156 = .ok (.bipush 12, 2) := by decide +kernel
theorem dX6_copyFrom_158 : decode cX6_copyFrom 158 = .ok (.invokestatic 93, 3) := by decide +kernel
theorem dX6_copyFrom_161 : decode cX6_copyFrom 161 = .ok (.aload_n 1, 1) := by decide +kernel
theorem dX6_copyFrom_162 : decode cX6_copyFrom 162 = .ok (.getfield 34, 3) := by decide +kernel
theorem dX6_copyFrom_165 : decode cX6_copyFrom 165 = .ok (.iconst 0, 1) := by decide +kernel
theorem dX6_copyFrom_166 : decode cX6_copyFrom 166 = .ok (.aload_n 0, 1) := by decide +kernel
theorem dX6_copyFrom_167 : decode cX6_copyFrom 167 = .ok (.getfield 34, 3) := by decide +kernel
theorem dX6_copyFrom_170 : decode cX6_copyFrom 170 = .ok (.iconst 0, 1) := by decide +kernel
theorem dX6_copyFrom_171 : decode cX6_copyFrom 171 = .ok (.iconst 5, 1) := by decide +kernel
theorem dX6_copyFrom_172 : decode cX6_copyFrom 172 = .ok (.invokestatic 93, 3) := by decide +kernel
theorem dX6_copyFrom_175 : decode cX6_copyFrom 175 = .ok (.aload_n 1, 1) := by decide +kernel
theorem dX6_copyFrom_176 : decode cX6_copyFrom 176 = .ok (.getfield 37, 3) := by decide +kernel
theorem dX6_copyFrom_179 : decode cX6_copyFrom 179 = .ok (.iconst 0, 1) := by decide +kernel
theorem dX6_copyFrom_180 : decode cX6_copyFrom 180 = .ok (.aload_n 0, 1) := by decide +kernel
theorem dX6_copyFrom_181 : decode cX6_copyFrom 181 = .ok (.getfield 37, 3) := by decide +kernel
theorem dX6_copyFrom_184 : decode cX6_copyFrom 184 = .ok (.iconst 0, 1) := by decide +kernel
theorem dX6_copyFrom_185 : decode cX6_copyFrom 185 = .ok (.bipush 36, 2) := by decide +kernel
theorem dX6_copyFrom_187 : decode cX6_copyFrom 187 = .ok (.invokestatic 93, 3) := by decide +kernel
theorem dX6_copyFrom_190 : decode cX6_copyFrom 190 = .ok (.aload_n 1, 1) := by decide +kernel
theorem dX6_copyFrom_191 : decode cX6_copyFrom 191 = .ok (.getfield 44, 3) := by decide +kernel
theorem dX6_copyFrom_194 : decode cX6_copyFrom 194 = .ok (.iconst 0, 1) := by decide +kernel
theorem dX6_copyFrom_195 : decode cX6_copyFrom 195 = .ok (.aload_n 0, 1) := by decide +kernel
theorem dX6_copyFrom_196 : decode cX6_copyFrom 196 = .ok (.getfield 44, 3) := by decide +kernel
theorem dX6_copyFrom_199 : decode cX6_copyFrom 199 = .ok (.iconst 0, 1) := by decide +kernel
theorem dX6_copyFrom_200 : decode cX6_copyFrom 200 = .ok (.iconst 5, 1) := by decide +kernel
theorem dX6_copyFrom_201 : decode cX6_copyFrom 201 = .ok (.invokestatic 93, 3) := by decide +kernel
theorem dX6_copyFrom_204 : decode cX6_copyFrom 204 = .ok (.return_, 1) := by decide +kernel
def J_X6_copyFrom_116 (D : aD) : Option (aD) :=
  aGd (aCg 0 0 12 12 12) (aLet (aCp D 27 8 0 0 12) (fun D_11 => aGd (aCg 0 0 12 12 12) (aLet (aCp D_11 28 9 0 0 12) (fun D_13 => aGd (aCg 0 0 12 12 12) (aLet (aCp D_13 29 10 0 0 12) (fun D_15 => aGd (aCg 0 0 5 5 5) (aLet (aCp D_15 30 11 0 0 5) (fun D_17 => aGd (aCg 0 0 36 36 36) (aLet (aCp D_17 31 12 0 0 36) (fun D_19 => aGd (aCg 0 0 5 5 5) (aLet (aCp D_19 33 14 0 0 5) (fun D_21 => some D_21))))))))))))
def B_X6_copyFrom_77 (v2 : Int32) (D : aD) : Option ((Int32 × aD) ⊕ ((aD))) :=
  if 6 ≤ v2 then (some (.inr D)) else (aGd (aIn v2 6) (aGd (aIn v2 6) ((f_X8_copyFrom (15 + v2.toNatClampNeg) (34 + v2.toNatClampNeg) D).bind (fun D_24 => aGd (aIn v2 6) (aGd (aIn v2 6) (aGd (aZ (gI D_24 32 v2.toNatClampNeg)) (aLet (pI D_24 13 v2.toNatClampNeg (gI D_24 32 v2.toNatClampNeg)) (fun D_28 => aLet (v2 + 1) (fun v2_29 => some (.inl (v2_29, D_28)))))))))))
def J_X6_copyFrom_77 (v2 : Int32) (D : aD) : Option (aD) :=
  (aLp (fun s => B_X6_copyFrom_77 s.1 s.2) (v2, D)).bind (fun r => J_X6_copyFrom_116 r)
def f_X6_copyFrom (D : aD) : Option (aD) :=
  (f_X4_copyFrom D).bind (fun D_1 => aLet (pI D_1 2 2 (gI D_1 21 2)) (fun D_2 => aLet (pI D_2 2 3 (gI D_2 21 3)) (fun D_3 => aLet (pI D_3 2 4 (gI D_3 21 4)) (fun D_4 => aLet (pI D_4 2 5 (gI D_4 21 5)) (fun D_5 => aLet (pI D_5 2 6 (gI D_5 21 6)) (fun D_6 => aLet (pI D_6 2 7 (gI D_6 21 7)) (fun D_7 => aLet (pI D_7 2 8 (gI D_7 21 8)) (fun D_8 => aLet (pI D_8 2 9 (gI D_8 21 9)) (fun D_9 => J_X6_copyFrom_77 0 D_9)))))))))
set_option maxRecDepth 100000 in
set_option maxHeartbeats 800000 in
theorem c_X6_copyFrom {G : aG} (hG : gOK G) {shp : List aSh} (hS : aShp shp) {fr : Option Nat} {D : aD} {K : aD → Prop} (h : Ok (f_X6_copyFrom D) K) : AC G (aRm 4 0 0) M_X6_copyFrom [.ref 2, .ref 21] fr shp D (aQv shp K) := by
  unfold f_X6_copyFrom at h
  refine AC.of (al := [some (.ref 2), some (.ref 21), none]) (r := 1) (by decide) (Nat.le_of_ble_eq_true rfl) rfl ?_
  have hJ_116 : ∀ (D : aD), Ok (J_X6_copyFrom_116 D) K → AW G (aRm 4 0 0) M_X6_copyFrom fr 0 0 116 [some (.ref 2), some (.ref 21), none] [] shp D (aQv shp K) := by
    intro D h
    unfold J_X6_copyFrom_116 at h
    refine aw_aload_n (n := 117) (i := 1) dX6_copyFrom_116 rfl rfl rfl ?_
    refine aw_getR (n := 120) (j := 10) (r := 27) hG.1 fl_RX6_24 (sF_21 hS) rfl dX6_copyFrom_117 rfl ?_
    refine aw_iconst (n := 121) (v := 0) dX6_copyFrom_120 rfl (by decide) ?_
    refine aw_aload_n (n := 122) (i := 0) dX6_copyFrom_121 rfl rfl rfl ?_
    refine aw_getR (n := 125) (j := 10) (r := 8) hG.1 fl_RX6_24 (sF_2 hS) rfl dX6_copyFrom_122 rfl ?_
    refine aw_iconst (n := 126) (v := 0) dX6_copyFrom_125 rfl (by decide) ?_
    refine aw_bipush (n := 128) (v := 12) dX6_copyFrom_126 rfl (by decide) ?_
    obtain ⟨g_10, h⟩ := Ok.gd h
    obtain ⟨D_11, e_D_11, h⟩ := Ok.let_ h
    refine aw_copy (M := M_X6_copyFrom) (n := 131) hG.1 la_RX6_93 ma_copy.1 ma_copy.2.1 ma_copy.2.2 (sF_27 hS) (sF_8 hS) (aCg_ok g_10).1 (aCg_ok g_10).2.1 (aCg_ok g_10).2.2.1 (aCg_ok g_10).2.2.2.1 (aCg_ok g_10).2.2.2.2 e_D_11 (by decide) (Nat.le_of_ble_eq_true rfl) dX6_copyFrom_128 rfl ?_
    refine aw_aload_n (n := 132) (i := 1) dX6_copyFrom_131 rfl rfl rfl ?_
    refine aw_getR (n := 135) (j := 11) (r := 28) hG.1 fl_RX6_28 (sF_21 hS) rfl dX6_copyFrom_132 rfl ?_
    refine aw_iconst (n := 136) (v := 0) dX6_copyFrom_135 rfl (by decide) ?_
    refine aw_aload_n (n := 137) (i := 0) dX6_copyFrom_136 rfl rfl rfl ?_
    refine aw_getR (n := 140) (j := 11) (r := 9) hG.1 fl_RX6_28 (sF_2 hS) rfl dX6_copyFrom_137 rfl ?_
    refine aw_iconst (n := 141) (v := 0) dX6_copyFrom_140 rfl (by decide) ?_
    refine aw_bipush (n := 143) (v := 12) dX6_copyFrom_141 rfl (by decide) ?_
    obtain ⟨g_12, h⟩ := Ok.gd h
    obtain ⟨D_13, e_D_13, h⟩ := Ok.let_ h
    refine aw_copy (M := M_X6_copyFrom) (n := 146) hG.1 la_RX6_93 ma_copy.1 ma_copy.2.1 ma_copy.2.2 (sF_28 hS) (sF_9 hS) (aCg_ok g_12).1 (aCg_ok g_12).2.1 (aCg_ok g_12).2.2.1 (aCg_ok g_12).2.2.2.1 (aCg_ok g_12).2.2.2.2 e_D_13 (by decide) (Nat.le_of_ble_eq_true rfl) dX6_copyFrom_143 rfl ?_
    refine aw_aload_n (n := 147) (i := 1) dX6_copyFrom_146 rfl rfl rfl ?_
    refine aw_getR (n := 150) (j := 12) (r := 29) hG.1 fl_RX6_31 (sF_21 hS) rfl dX6_copyFrom_147 rfl ?_
    refine aw_iconst (n := 151) (v := 0) dX6_copyFrom_150 rfl (by decide) ?_
    refine aw_aload_n (n := 152) (i := 0) dX6_copyFrom_151 rfl rfl rfl ?_
    refine aw_getR (n := 155) (j := 12) (r := 10) hG.1 fl_RX6_31 (sF_2 hS) rfl dX6_copyFrom_152 rfl ?_
    refine aw_iconst (n := 156) (v := 0) dX6_copyFrom_155 rfl (by decide) ?_
    refine aw_bipush (n := 158) (v := 12) dX6_copyFrom_156 rfl (by decide) ?_
    obtain ⟨g_14, h⟩ := Ok.gd h
    obtain ⟨D_15, e_D_15, h⟩ := Ok.let_ h
    refine aw_copy (M := M_X6_copyFrom) (n := 161) hG.1 la_RX6_93 ma_copy.1 ma_copy.2.1 ma_copy.2.2 (sF_29 hS) (sF_10 hS) (aCg_ok g_14).1 (aCg_ok g_14).2.1 (aCg_ok g_14).2.2.1 (aCg_ok g_14).2.2.2.1 (aCg_ok g_14).2.2.2.2 e_D_15 (by decide) (Nat.le_of_ble_eq_true rfl) dX6_copyFrom_158 rfl ?_
    refine aw_aload_n (n := 162) (i := 1) dX6_copyFrom_161 rfl rfl rfl ?_
    refine aw_getR (n := 165) (j := 13) (r := 30) hG.1 fl_RX6_34 (sF_21 hS) rfl dX6_copyFrom_162 rfl ?_
    refine aw_iconst (n := 166) (v := 0) dX6_copyFrom_165 rfl (by decide) ?_
    refine aw_aload_n (n := 167) (i := 0) dX6_copyFrom_166 rfl rfl rfl ?_
    refine aw_getR (n := 170) (j := 13) (r := 11) hG.1 fl_RX6_34 (sF_2 hS) rfl dX6_copyFrom_167 rfl ?_
    refine aw_iconst (n := 171) (v := 0) dX6_copyFrom_170 rfl (by decide) ?_
    refine aw_iconst (n := 172) (v := 5) dX6_copyFrom_171 rfl (by decide) ?_
    obtain ⟨g_16, h⟩ := Ok.gd h
    obtain ⟨D_17, e_D_17, h⟩ := Ok.let_ h
    refine aw_copy (M := M_X6_copyFrom) (n := 175) hG.1 la_RX6_93 ma_copy.1 ma_copy.2.1 ma_copy.2.2 (sF_30 hS) (sF_11 hS) (aCg_ok g_16).1 (aCg_ok g_16).2.1 (aCg_ok g_16).2.2.1 (aCg_ok g_16).2.2.2.1 (aCg_ok g_16).2.2.2.2 e_D_17 (by decide) (Nat.le_of_ble_eq_true rfl) dX6_copyFrom_172 rfl ?_
    refine aw_aload_n (n := 176) (i := 1) dX6_copyFrom_175 rfl rfl rfl ?_
    refine aw_getR (n := 179) (j := 14) (r := 31) hG.1 fl_RX6_37 (sF_21 hS) rfl dX6_copyFrom_176 rfl ?_
    refine aw_iconst (n := 180) (v := 0) dX6_copyFrom_179 rfl (by decide) ?_
    refine aw_aload_n (n := 181) (i := 0) dX6_copyFrom_180 rfl rfl rfl ?_
    refine aw_getR (n := 184) (j := 14) (r := 12) hG.1 fl_RX6_37 (sF_2 hS) rfl dX6_copyFrom_181 rfl ?_
    refine aw_iconst (n := 185) (v := 0) dX6_copyFrom_184 rfl (by decide) ?_
    refine aw_bipush (n := 187) (v := 36) dX6_copyFrom_185 rfl (by decide) ?_
    obtain ⟨g_18, h⟩ := Ok.gd h
    obtain ⟨D_19, e_D_19, h⟩ := Ok.let_ h
    refine aw_copy (M := M_X6_copyFrom) (n := 190) hG.1 la_RX6_93 ma_copy.1 ma_copy.2.1 ma_copy.2.2 (sF_31 hS) (sF_12 hS) (aCg_ok g_18).1 (aCg_ok g_18).2.1 (aCg_ok g_18).2.2.1 (aCg_ok g_18).2.2.2.1 (aCg_ok g_18).2.2.2.2 e_D_19 (by decide) (Nat.le_of_ble_eq_true rfl) dX6_copyFrom_187 rfl ?_
    refine aw_aload_n (n := 191) (i := 1) dX6_copyFrom_190 rfl rfl rfl ?_
    refine aw_getR (n := 194) (j := 16) (r := 33) hG.1 fl_RX6_44 (sF_21 hS) rfl dX6_copyFrom_191 rfl ?_
    refine aw_iconst (n := 195) (v := 0) dX6_copyFrom_194 rfl (by decide) ?_
    refine aw_aload_n (n := 196) (i := 0) dX6_copyFrom_195 rfl rfl rfl ?_
    refine aw_getR (n := 199) (j := 16) (r := 14) hG.1 fl_RX6_44 (sF_2 hS) rfl dX6_copyFrom_196 rfl ?_
    refine aw_iconst (n := 200) (v := 0) dX6_copyFrom_199 rfl (by decide) ?_
    refine aw_iconst (n := 201) (v := 5) dX6_copyFrom_200 rfl (by decide) ?_
    obtain ⟨g_20, h⟩ := Ok.gd h
    obtain ⟨D_21, e_D_21, h⟩ := Ok.let_ h
    refine aw_copy (M := M_X6_copyFrom) (n := 204) hG.1 la_RX6_93 ma_copy.1 ma_copy.2.1 ma_copy.2.2 (sF_33 hS) (sF_14 hS) (aCg_ok g_20).1 (aCg_ok g_20).2.1 (aCg_ok g_20).2.2.1 (aCg_ok g_20).2.2.2.1 (aCg_ok g_20).2.2.2.2 e_D_21 (by decide) (Nat.le_of_ble_eq_true rfl) dX6_copyFrom_201 rfl ?_
    exact aw_vret rfl (by decide) (by decide) dX6_copyFrom_204 ⟨rfl, rfl, (Ok.dn h :)⟩
  have hJ_77 : ∀ (v2 : Int32) (D : aD), Ok (J_X6_copyFrom_77 v2 D) K → AW G (aRm 4 0 0) M_X6_copyFrom fr 0 0 77 [some (.ref 2), some (.ref 21), some (.int v2)] [] shp D (aQv shp K) := by
    intro v2 D h
    unfold J_X6_copyFrom_77 at h
    refine Ok.lp (P := fun s => AW G (aRm 4 0 0) M_X6_copyFrom fr 0 0 77 [some (.ref 2), some (.ref 21), some (.int (s.1))] [] shp s.2 (aQv shp K)) (fun s Kb77 hL77 hR77 h => ?_) (v2, D) (Ok.bind h)
    obtain ⟨v2, D⟩ := s
    replace h : Ok (B_X6_copyFrom_77 v2 D) Kb77 := h
    unfold B_X6_copyFrom_77 at h
    refine aw_iload_n (n := 78) (i := 2) dX6_copyFrom_77 rfl rfl rfl ?_
    refine aw_bipush (n := 80) (v := 6) dX6_copyFrom_78 rfl (by decide) ?_
    refine aw_icmp_ge (n := 83) (tgt := 116) dX6_copyFrom_80 rfl (by decide) (fun c => ?_) (fun c => ?_)
    · replace h := Ok.ift h c
      exact aw_le' (hJ_116 D (hR77 D (Ok.dn h :))) ⟨rfl, ⟨rfl, trivial⟩⟩
    · replace h := Ok.iff h c
      refine aw_aload_n (n := 84) (i := 0) dX6_copyFrom_83 rfl rfl rfl ?_
      refine aw_getR (n := 87) (j := 1) (r := 7) hG.1 fl_RX6_20 (sF_2 hS) rfl dX6_copyFrom_84 rfl ?_
      refine aw_iload_n (n := 88) (i := 2) dX6_copyFrom_87 rfl rfl rfl ?_
      obtain ⟨g_22, h⟩ := Ok.gd h
      refine aw_aaload (n := 89) (t := 4) (r := (15 + v2.toNatClampNeg)) hG.1 (by decide) rfl (sF_7 hS) (aIn_in g_22) (rs_7 (aIn_lt g_22)) dX6_copyFrom_88 rfl ?_
      refine aw_aload_n (n := 90) (i := 1) dX6_copyFrom_89 rfl rfl rfl ?_
      refine aw_getR (n := 93) (j := 1) (r := 26) hG.1 fl_RX6_20 (sF_21 hS) rfl dX6_copyFrom_90 rfl ?_
      refine aw_iload_n (n := 94) (i := 2) dX6_copyFrom_93 rfl rfl rfl ?_
      obtain ⟨g_23, h⟩ := Ok.gd h
      refine aw_aaload (n := 95) (t := 4) (r := (34 + v2.toNatClampNeg)) hG.1 (by decide) rfl (sF_26 hS) (aIn_in g_23) (rs_26 (aIn_lt g_23)) dX6_copyFrom_94 rfl ?_
      refine aw_cVv (M := M_X6_copyFrom) (n := 98) (As := [.ref (34 + v2.toNatClampNeg)]) (rest := []) hG.1 lk_RX6_90 rfl rfl (so_15 hS (aIn_lt g_22)) (c_X8_copyFrom hG hS (h := Ok.bind h) (so_15 hS (aIn_lt g_22)) (so_34 hS (aIn_lt g_23))) (by decide) (Nat.le_of_ble_eq_true rfl) (by decide) (by decide) dX6_copyFrom_95 rfl (fun D_24 h => ?_)
      refine aw_aload_n (n := 99) (i := 0) dX6_copyFrom_98 rfl rfl rfl ?_
      refine aw_getR (n := 102) (j := 15) (r := 13) hG.1 fl_RX6_40 (sF_2 hS) rfl dX6_copyFrom_99 rfl ?_
      refine aw_iload_n (n := 103) (i := 2) dX6_copyFrom_102 rfl rfl rfl ?_
      refine aw_aload_n (n := 104) (i := 1) dX6_copyFrom_103 rfl rfl rfl ?_
      refine aw_getR (n := 107) (j := 15) (r := 32) hG.1 fl_RX6_40 (sF_21 hS) rfl dX6_copyFrom_104 rfl ?_
      refine aw_iload_n (n := 108) (i := 2) dX6_copyFrom_107 rfl rfl rfl ?_
      obtain ⟨g_25, h⟩ := Ok.gd h
      refine aw_zaload (n := 109) hG.1 (sF_32 hS) (aIn_in g_25) dX6_copyFrom_108 rfl ?_
      obtain ⟨g_26, h⟩ := Ok.gd h
      obtain ⟨g_27, h⟩ := Ok.gd h
      obtain ⟨D_28, e_D_28, h⟩ := Ok.let_ h
      refine aw_zastore (n := 110) hG.1 (aZ_or g_27) (sF_13 hS) (aIn_in g_26) e_D_28 dX6_copyFrom_109 rfl ?_
      obtain ⟨v2_29, e_v2_29, h⟩ := Ok.let_ h
      refine aw_iinc (n := 113) (al' := [some (.ref 2), some (.ref 21), some (.int v2_29)]) dX6_copyFrom_110 rfl rfl e_v2_29 (by decide) rfl ?_
      refine aw_goto (tgt := 77) dX6_copyFrom_113 (by decide) ?_
      exact aw_le' (hL77 (v2_29, D_28) (Ok.dn h :)) ⟨rfl, ⟨rfl, ⟨rfl, trivial⟩⟩⟩
  refine aw_aload_n (n := 1) (i := 0) dX6_copyFrom_0 rfl rfl rfl ?_
  refine aw_getR (n := 4) (j := 0) (r := 3) hG.1 fl_RX6_12 (sF_2 hS) rfl dX6_copyFrom_1 rfl ?_
  refine aw_aload_n (n := 5) (i := 1) dX6_copyFrom_4 rfl rfl rfl ?_
  refine aw_getR (n := 8) (j := 0) (r := 22) hG.1 fl_RX6_12 (sF_21 hS) rfl dX6_copyFrom_5 rfl ?_
  refine aw_cVv (M := M_X6_copyFrom) (n := 11) (As := [.ref 22]) (rest := []) hG.1 lk_RX6_86 rfl rfl (sF_3 hS) (c_X4_copyFrom hG hS (h := Ok.bind h)) (by decide) (Nat.le_of_ble_eq_true rfl) (by decide) (by decide) dX6_copyFrom_8 rfl (fun D_1 h => ?_)
  refine aw_aload_n (n := 12) (i := 0) dX6_copyFrom_11 rfl rfl rfl ?_
  refine aw_aload_n (n := 13) (i := 1) dX6_copyFrom_12 rfl rfl rfl ?_
  refine aw_getI (n := 16) (j := 2) hG.1 fl_RX6_55 (sF_21 hS) rfl dX6_copyFrom_13 rfl ?_
  obtain ⟨D_2, e_D_2, h⟩ := Ok.let_ h
  refine aw_putI (n := 19) (j := 2) hG.1 fl_RX6_55 (sF_2 hS) rfl e_D_2 dX6_copyFrom_16 rfl ?_
  refine aw_aload_n (n := 20) (i := 0) dX6_copyFrom_19 rfl rfl rfl ?_
  refine aw_aload_n (n := 21) (i := 1) dX6_copyFrom_20 rfl rfl rfl ?_
  refine aw_getI (n := 24) (j := 3) hG.1 fl_RX6_59 (sF_21 hS) rfl dX6_copyFrom_21 rfl ?_
  obtain ⟨D_3, e_D_3, h⟩ := Ok.let_ h
  refine aw_putI (n := 27) (j := 3) hG.1 fl_RX6_59 (sF_2 hS) rfl e_D_3 dX6_copyFrom_24 rfl ?_
  refine aw_aload_n (n := 28) (i := 0) dX6_copyFrom_27 rfl rfl rfl ?_
  refine aw_aload_n (n := 29) (i := 1) dX6_copyFrom_28 rfl rfl rfl ?_
  refine aw_getI (n := 32) (j := 4) hG.1 fl_RX6_62 (sF_21 hS) rfl dX6_copyFrom_29 rfl ?_
  obtain ⟨D_4, e_D_4, h⟩ := Ok.let_ h
  refine aw_putI (n := 35) (j := 4) hG.1 fl_RX6_62 (sF_2 hS) rfl e_D_4 dX6_copyFrom_32 rfl ?_
  refine aw_aload_n (n := 36) (i := 0) dX6_copyFrom_35 rfl rfl rfl ?_
  refine aw_aload_n (n := 37) (i := 1) dX6_copyFrom_36 rfl rfl rfl ?_
  refine aw_getI (n := 40) (j := 5) hG.1 fl_RX6_65 (sF_21 hS) rfl dX6_copyFrom_37 rfl ?_
  obtain ⟨D_5, e_D_5, h⟩ := Ok.let_ h
  refine aw_putI (n := 43) (j := 5) hG.1 fl_RX6_65 (sF_2 hS) rfl e_D_5 dX6_copyFrom_40 rfl ?_
  refine aw_aload_n (n := 44) (i := 0) dX6_copyFrom_43 rfl rfl rfl ?_
  refine aw_aload_n (n := 45) (i := 1) dX6_copyFrom_44 rfl rfl rfl ?_
  refine aw_getI (n := 48) (j := 6) hG.1 fl_RX6_68 (sF_21 hS) rfl dX6_copyFrom_45 rfl ?_
  obtain ⟨D_6, e_D_6, h⟩ := Ok.let_ h
  refine aw_putI (n := 51) (j := 6) hG.1 fl_RX6_68 (sF_2 hS) rfl e_D_6 dX6_copyFrom_48 rfl ?_
  refine aw_aload_n (n := 52) (i := 0) dX6_copyFrom_51 rfl rfl rfl ?_
  refine aw_aload_n (n := 53) (i := 1) dX6_copyFrom_52 rfl rfl rfl ?_
  refine aw_getI (n := 56) (j := 7) hG.1 fl_RX6_71 (sF_21 hS) rfl dX6_copyFrom_53 rfl ?_
  obtain ⟨D_7, e_D_7, h⟩ := Ok.let_ h
  refine aw_putI (n := 59) (j := 7) hG.1 fl_RX6_71 (sF_2 hS) rfl e_D_7 dX6_copyFrom_56 rfl ?_
  refine aw_aload_n (n := 60) (i := 0) dX6_copyFrom_59 rfl rfl rfl ?_
  refine aw_aload_n (n := 61) (i := 1) dX6_copyFrom_60 rfl rfl rfl ?_
  refine aw_getI (n := 64) (j := 8) hG.1 fl_RX6_74 (sF_21 hS) rfl dX6_copyFrom_61 rfl ?_
  obtain ⟨D_8, e_D_8, h⟩ := Ok.let_ h
  refine aw_putI (n := 67) (j := 8) hG.1 fl_RX6_74 (sF_2 hS) rfl e_D_8 dX6_copyFrom_64 rfl ?_
  refine aw_aload_n (n := 68) (i := 0) dX6_copyFrom_67 rfl rfl rfl ?_
  refine aw_aload_n (n := 69) (i := 1) dX6_copyFrom_68 rfl rfl rfl ?_
  refine aw_getI (n := 72) (j := 9) hG.1 fl_RX6_77 (sF_21 hS) rfl dX6_copyFrom_69 rfl ?_
  obtain ⟨D_9, e_D_9, h⟩ := Ok.let_ h
  refine aw_putI (n := 75) (j := 9) hG.1 fl_RX6_77 (sF_2 hS) rfl e_D_9 dX6_copyFrom_72 rfl ?_
  refine aw_iconst (n := 76) (v := 0) dX6_copyFrom_75 rfl (by decide) ?_
  refine aw_istore_n (n := 77) (i := 2) (al' := [some (.ref 2), some (.ref 21), some (.int 0)]) dX6_copyFrom_76 rfl rfl rfl (by decide) rfl ?_
  exact aw_le' (hJ_77 0 D_9 h) ⟨rfl, ⟨rfl, ⟨rfl, trivial⟩⟩⟩
theorem dX6_isHerb_0 : decode cX6_isHerb 0 = .ok (.aload_n 0, 1) := by decide +kernel
theorem dX6_isHerb_1 : decode cX6_isHerb 1 = .ok (.getfield 20, 3) := by decide +kernel
theorem dX6_isHerb_4 : decode cX6_isHerb 4 = .ok (.aload_n 0, 1) := by decide +kernel
theorem dX6_isHerb_5 : decode cX6_isHerb 5 = .ok (.getfield 24, 3) := by decide +kernel
theorem dX6_isHerb_8 : decode cX6_isHerb 8 = .ok (.iload_n 1, 1) := by decide +kernel
theorem dX6_isHerb_9 : decode cX6_isHerb 9 = .ok (.iaload, 1) := by decide +kernel
theorem dX6_isHerb_10 : decode cX6_isHerb 10 = .ok (.aaload, 1) := by decide +kernel
theorem dX6_isHerb_11 : decode cX6_isHerb 11 = .ok (.getfield 99, 3) := by decide +kernel
theorem dX6_isHerb_14 : decode cX6_isHerb 14 = .ok (.ireturn, 1) := by decide +kernel
def f_X6_isHerb (v1 : Int32) (D : aD) : Option (Int32 × aD) :=
  aGd (aIn v1 12) (aGd (aIn (gI D 8 v1.toNatClampNeg) 6) (aGd (aZ (gI D (15 + (gI D 8 v1.toNatClampNeg).toNatClampNeg) 6)) (some (gI D (15 + (gI D 8 v1.toNatClampNeg).toNatClampNeg) 6, D))))
set_option maxRecDepth 100000 in
set_option maxHeartbeats 800000 in
theorem c_X6_isHerb {G : aG} (hG : gOK G) {shp : List aSh} (hS : aShp shp) {fr : Option Nat} {v1 : Int32} {D : aD} {K : Int32 → aD → Prop} (h : Ok2 (f_X6_isHerb v1 D) K) : AC G (aRm 1 0 0) M_X6_isHerb [.ref 2, .int v1] fr shp D (aQi shp K) := by
  replace h := Ok2.ok h
  unfold f_X6_isHerb at h
  refine AC.of (al := [some (.ref 2), some (.int v1)]) (r := 0) (by decide) (Nat.le_of_ble_eq_true rfl) rfl ?_
  refine aw_aload_n (n := 1) (i := 0) dX6_isHerb_0 rfl rfl rfl ?_
  refine aw_getR (n := 4) (j := 1) (r := 7) hG.1 fl_RX6_20 (sF_2 hS) rfl dX6_isHerb_1 rfl ?_
  refine aw_aload_n (n := 5) (i := 0) dX6_isHerb_4 rfl rfl rfl ?_
  refine aw_getR (n := 8) (j := 10) (r := 8) hG.1 fl_RX6_24 (sF_2 hS) rfl dX6_isHerb_5 rfl ?_
  refine aw_iload_n (n := 9) (i := 1) dX6_isHerb_8 rfl rfl rfl ?_
  obtain ⟨g_1, h⟩ := Ok.gd h
  refine aw_iaload (n := 10) hG.1 (sF_8 hS) (aIn_in g_1) dX6_isHerb_9 rfl ?_
  obtain ⟨g_2, h⟩ := Ok.gd h
  refine aw_aaload (n := 11) (t := 4) (r := (15 + (gI D 8 v1.toNatClampNeg).toNatClampNeg)) hG.1 (by decide) rfl (sF_7 hS) (aIn_in g_2) (rs_7 (aIn_lt g_2)) dX6_isHerb_10 rfl ?_
  refine aw_getI (n := 14) (j := 6) hG.1 fl_RX6_99 (so_15 hS (aIn_lt g_2)) rfl dX6_isHerb_11 rfl ?_
  obtain ⟨g_3, h⟩ := Ok.gd h
  exact aw_zret rfl (aZ_or g_3) (by decide) (by decide) dX6_isHerb_14 ⟨_, rfl, rfl, (Ok.dn h :)⟩
theorem dX4_cells_0 : decode cX4_cells 0 = .ok (.aload_n 0, 1) := by decide +kernel
theorem dX4_cells_1 : decode cX4_cells 1 = .ok (.getfield 22, 3) := by decide +kernel
theorem dX4_cells_4 : decode cX4_cells 4 = .ok (.aload_n 0, 1) := by decide +kernel
theorem dX4_cells_5 : decode cX4_cells 5 = .ok (.getfield 26, 3) := by decide +kernel
theorem dX4_cells_8 : decode cX4_cells 8 = .ok (.imul, 1) := by decide +kernel
theorem dX4_cells_9 : decode cX4_cells 9 = .ok (.ireturn, 1) := by decide +kernel
def f_X4_cells (D : aD) : Option (Int32 × aD) :=
  some ((gI D 3 0) * (gI D 3 1), D)
set_option maxRecDepth 100000 in
set_option maxHeartbeats 800000 in
theorem c_X4_cells {G : aG} (hG : gOK G) {shp : List aSh} (hS : aShp shp) {fr : Option Nat} {D : aD} {K : Int32 → aD → Prop} (h : Ok2 (f_X4_cells D) K) : AC G (aRm 1 0 0) M_X4_cells [.ref 3] fr shp D (aQi shp K) := by
  replace h := Ok2.ok h
  unfold f_X4_cells at h
  refine AC.of (al := [some (.ref 3)]) (r := 0) (by decide) (Nat.le_of_ble_eq_true rfl) rfl ?_
  refine aw_aload_n (n := 1) (i := 0) dX4_cells_0 rfl rfl rfl ?_
  refine aw_getI (n := 4) (j := 0) hG.1 fl_RX4_22 (sF_3 hS) rfl dX4_cells_1 rfl ?_
  refine aw_aload_n (n := 5) (i := 0) dX4_cells_4 rfl rfl rfl ?_
  refine aw_getI (n := 8) (j := 1) hG.1 fl_RX4_26 (sF_3 hS) rfl dX4_cells_5 rfl ?_
  refine aw_imul (n := 9) dX4_cells_8 rfl ?_
  exact aw_iret rfl (by decide) (by decide) dX4_cells_9 ⟨_, rfl, rfl, (Ok.dn h :)⟩
theorem dX4_along_0 : decode cX4_along 0 = .ok (.iload_n 3, 1) := by decide +kernel
theorem dX4_along_1 : decode cX4_along 1 = .ok (.tableswitch 87 1 4 #[31, 45, 59, 73], 31) := by decide +kernel
theorem dX4_along_32 : decode cX4_along 32 = .ok (.aload_n 0, 1) := by decide +kernel
theorem dX4_along_33 : decode cX4_along 33 = .ok (.getfield 15, 3) := by decide +kernel
theorem dX4_along_36 : decode cX4_along 36 = .ok (.iload_n 1, 1) := by decide +kernel
theorem dX4_along_37 : decode cX4_along 37 = .ok (.iaload, 1) := by decide +kernel
theorem dX4_along_38 : decode cX4_along 38 = .ok (.aload_n 0, 1) := by decide +kernel
theorem dX4_along_39 : decode cX4_along 39 = .ok (.getfield 15, 3) := by decide +kernel
theorem dX4_along_42 : decode cX4_along 42 = .ok (.iload_n 2, 1) := by decide +kernel
theorem dX4_along_43 : decode cX4_along 43 = .ok (.iaload, 1) := by decide +kernel
theorem dX4_along_44 : decode cX4_along 44 = .ok (.isub, 1) := by decide +kernel
theorem dX4_along_45 : decode cX4_along 45 = .ok (.ireturn, 1) := by decide +kernel
theorem dX4_along_46 : decode cX4_along 46 = .ok (.aload_n 0, 1) := by decide +kernel
theorem dX4_along_47 : decode cX4_along 47 = .ok (.getfield 9, 3) := by decide +kernel
theorem dX4_along_50 : decode cX4_along 50 = .ok (.iload_n 2, 1) := by decide +kernel
theorem dX4_along_51 : decode cX4_along 51 = .ok (.iaload, 1) := by decide +kernel
theorem dX4_along_52 : decode cX4_along 52 = .ok (.aload_n 0, 1) := by decide +kernel
theorem dX4_along_53 : decode cX4_along 53 = .ok (.getfield 9, 3) := by decide +kernel
theorem dX4_along_56 : decode cX4_along 56 = .ok (.iload_n 1, 1) := by decide +kernel
theorem dX4_along_57 : decode cX4_along 57 = .ok (.iaload, 1) := by decide +kernel
theorem dX4_along_58 : decode cX4_along 58 = .ok (.isub, 1) := by decide +kernel
theorem dX4_along_59 : decode cX4_along 59 = .ok (.ireturn, 1) := by decide +kernel
theorem dX4_along_60 : decode cX4_along 60 = .ok (.aload_n 0, 1) := by decide +kernel
theorem dX4_along_61 : decode cX4_along 61 = .ok (.getfield 15, 3) := by decide +kernel
theorem dX4_along_64 : decode cX4_along 64 = .ok (.iload_n 2, 1) := by decide +kernel
theorem dX4_along_65 : decode cX4_along 65 = .ok (.iaload, 1) := by decide +kernel
theorem dX4_along_66 : decode cX4_along 66 = .ok (.aload_n 0, 1) := by decide +kernel
theorem dX4_along_67 : decode cX4_along 67 = .ok (.getfield 15, 3) := by decide +kernel
theorem dX4_along_70 : decode cX4_along 70 = .ok (.iload_n 1, 1) := by decide +kernel
theorem dX4_along_71 : decode cX4_along 71 = .ok (.iaload, 1) := by decide +kernel
theorem dX4_along_72 : decode cX4_along 72 = .ok (.isub, 1) := by decide +kernel
theorem dX4_along_73 : decode cX4_along 73 = .ok (.ireturn, 1) := by decide +kernel
theorem dX4_along_74 : decode cX4_along 74 = .ok (.aload_n 0, 1) := by decide +kernel
theorem dX4_along_75 : decode cX4_along 75 = .ok (.getfield 9, 3) := by decide +kernel
theorem dX4_along_78 : decode cX4_along 78 = .ok (.iload_n 1, 1) := by decide +kernel
theorem dX4_along_79 : decode cX4_along 79 = .ok (.iaload, 1) := by decide +kernel
theorem dX4_along_80 : decode cX4_along 80 = .ok (.aload_n 0, 1) := by decide +kernel
theorem dX4_along_81 : decode cX4_along 81 = .ok (.getfield 9, 3) := by decide +kernel
theorem dX4_along_84 : decode cX4_along 84 = .ok (.iload_n 2, 1) := by decide +kernel
theorem dX4_along_85 : decode cX4_along 85 = .ok (.iaload, 1) := by decide +kernel
theorem dX4_along_86 : decode cX4_along 86 = .ok (.isub, 1) := by decide +kernel
theorem dX4_along_87 : decode cX4_along 87 = .ok (.ireturn, 1) := by decide +kernel
theorem dX4_along_88 : decode cX4_along 88 = .ok (.iconst 0, 1) := by decide +kernel
theorem dX4_along_89 : decode cX4_along 89 = .ok (.ireturn, 1) := by decide +kernel
def f_X4_along (v1 : Int32) (v2 : Int32) (v3 : Int32) (D : aD) : Option (Int32 × aD) :=
  if v3 = 1 then (aGd (aIn v1 64) (aGd (aIn v2 64) (some ((gI D 5 v1.toNatClampNeg) - (gI D 5 v2.toNatClampNeg), D)))) else (if v3 = 2 then (aGd (aIn v2 64) (aGd (aIn v1 64) (some ((gI D 4 v2.toNatClampNeg) - (gI D 4 v1.toNatClampNeg), D)))) else (if v3 = 3 then (aGd (aIn v2 64) (aGd (aIn v1 64) (some ((gI D 5 v2.toNatClampNeg) - (gI D 5 v1.toNatClampNeg), D)))) else (if v3 = 4 then (aGd (aIn v1 64) (aGd (aIn v2 64) (some ((gI D 4 v1.toNatClampNeg) - (gI D 4 v2.toNatClampNeg), D)))) else (some (0, D)))))
set_option maxRecDepth 100000 in
set_option maxHeartbeats 800000 in
theorem c_X4_along {G : aG} (hG : gOK G) {shp : List aSh} (hS : aShp shp) {fr : Option Nat} {v1 : Int32} {v2 : Int32} {v3 : Int32} {D : aD} {K : Int32 → aD → Prop} (h : Ok2 (f_X4_along v1 v2 v3 D) K) : AC G (aRm 1 0 0) M_X4_along [.ref 3, .int v1, .int v2, .int v3] fr shp D (aQi shp K) := by
  replace h := Ok2.ok h
  unfold f_X4_along at h
  refine AC.of (al := [some (.ref 3), some (.int v1), some (.int v2), some (.int v3)]) (r := 0) (by decide) (Nat.le_of_ble_eq_true rfl) rfl ?_
  refine aw_iload_n (n := 1) (i := 3) dX4_along_0 rfl rfl rfl ?_
  by_cases c0 : v3 = 1
  · replace h := Ok.ift h c0
    refine aw_tableIn (tgt := 32) dX4_along_1 (by rw [c0]; decide) (by rw [c0]; decide) (off := 31) (by rw [c0]; rfl) (by decide) ?_
    refine aw_aload_n (n := 33) (i := 0) dX4_along_32 rfl rfl rfl ?_
    refine aw_getR (n := 36) (j := 3) (r := 5) hG.1 fl_RX4_15 (sF_3 hS) rfl dX4_along_33 rfl ?_
    refine aw_iload_n (n := 37) (i := 1) dX4_along_36 rfl rfl rfl ?_
    obtain ⟨g_1, h⟩ := Ok.gd h
    refine aw_iaload (n := 38) hG.1 (sF_5 hS) (aIn_in g_1) dX4_along_37 rfl ?_
    refine aw_aload_n (n := 39) (i := 0) dX4_along_38 rfl rfl rfl ?_
    refine aw_getR (n := 42) (j := 3) (r := 5) hG.1 fl_RX4_15 (sF_3 hS) rfl dX4_along_39 rfl ?_
    refine aw_iload_n (n := 43) (i := 2) dX4_along_42 rfl rfl rfl ?_
    obtain ⟨g_2, h⟩ := Ok.gd h
    refine aw_iaload (n := 44) hG.1 (sF_5 hS) (aIn_in g_2) dX4_along_43 rfl ?_
    refine aw_isub (n := 45) dX4_along_44 rfl ?_
    exact aw_iret rfl (by decide) (by decide) dX4_along_45 ⟨_, rfl, rfl, (Ok.dn h :)⟩
  replace h := Ok.iff h c0
  by_cases c1 : v3 = 2
  · replace h := Ok.ift h c1
    refine aw_tableIn (tgt := 46) dX4_along_1 (by rw [c1]; decide) (by rw [c1]; decide) (off := 45) (by rw [c1]; rfl) (by decide) ?_
    refine aw_aload_n (n := 47) (i := 0) dX4_along_46 rfl rfl rfl ?_
    refine aw_getR (n := 50) (j := 2) (r := 4) hG.1 fl_RX4_9 (sF_3 hS) rfl dX4_along_47 rfl ?_
    refine aw_iload_n (n := 51) (i := 2) dX4_along_50 rfl rfl rfl ?_
    obtain ⟨g_3, h⟩ := Ok.gd h
    refine aw_iaload (n := 52) hG.1 (sF_4 hS) (aIn_in g_3) dX4_along_51 rfl ?_
    refine aw_aload_n (n := 53) (i := 0) dX4_along_52 rfl rfl rfl ?_
    refine aw_getR (n := 56) (j := 2) (r := 4) hG.1 fl_RX4_9 (sF_3 hS) rfl dX4_along_53 rfl ?_
    refine aw_iload_n (n := 57) (i := 1) dX4_along_56 rfl rfl rfl ?_
    obtain ⟨g_4, h⟩ := Ok.gd h
    refine aw_iaload (n := 58) hG.1 (sF_4 hS) (aIn_in g_4) dX4_along_57 rfl ?_
    refine aw_isub (n := 59) dX4_along_58 rfl ?_
    exact aw_iret rfl (by decide) (by decide) dX4_along_59 ⟨_, rfl, rfl, (Ok.dn h :)⟩
  replace h := Ok.iff h c1
  by_cases c2 : v3 = 3
  · replace h := Ok.ift h c2
    refine aw_tableIn (tgt := 60) dX4_along_1 (by rw [c2]; decide) (by rw [c2]; decide) (off := 59) (by rw [c2]; rfl) (by decide) ?_
    refine aw_aload_n (n := 61) (i := 0) dX4_along_60 rfl rfl rfl ?_
    refine aw_getR (n := 64) (j := 3) (r := 5) hG.1 fl_RX4_15 (sF_3 hS) rfl dX4_along_61 rfl ?_
    refine aw_iload_n (n := 65) (i := 2) dX4_along_64 rfl rfl rfl ?_
    obtain ⟨g_5, h⟩ := Ok.gd h
    refine aw_iaload (n := 66) hG.1 (sF_5 hS) (aIn_in g_5) dX4_along_65 rfl ?_
    refine aw_aload_n (n := 67) (i := 0) dX4_along_66 rfl rfl rfl ?_
    refine aw_getR (n := 70) (j := 3) (r := 5) hG.1 fl_RX4_15 (sF_3 hS) rfl dX4_along_67 rfl ?_
    refine aw_iload_n (n := 71) (i := 1) dX4_along_70 rfl rfl rfl ?_
    obtain ⟨g_6, h⟩ := Ok.gd h
    refine aw_iaload (n := 72) hG.1 (sF_5 hS) (aIn_in g_6) dX4_along_71 rfl ?_
    refine aw_isub (n := 73) dX4_along_72 rfl ?_
    exact aw_iret rfl (by decide) (by decide) dX4_along_73 ⟨_, rfl, rfl, (Ok.dn h :)⟩
  replace h := Ok.iff h c2
  by_cases c3 : v3 = 4
  · replace h := Ok.ift h c3
    refine aw_tableIn (tgt := 74) dX4_along_1 (by rw [c3]; decide) (by rw [c3]; decide) (off := 73) (by rw [c3]; rfl) (by decide) ?_
    refine aw_aload_n (n := 75) (i := 0) dX4_along_74 rfl rfl rfl ?_
    refine aw_getR (n := 78) (j := 2) (r := 4) hG.1 fl_RX4_9 (sF_3 hS) rfl dX4_along_75 rfl ?_
    refine aw_iload_n (n := 79) (i := 1) dX4_along_78 rfl rfl rfl ?_
    obtain ⟨g_7, h⟩ := Ok.gd h
    refine aw_iaload (n := 80) hG.1 (sF_4 hS) (aIn_in g_7) dX4_along_79 rfl ?_
    refine aw_aload_n (n := 81) (i := 0) dX4_along_80 rfl rfl rfl ?_
    refine aw_getR (n := 84) (j := 2) (r := 4) hG.1 fl_RX4_9 (sF_3 hS) rfl dX4_along_81 rfl ?_
    refine aw_iload_n (n := 85) (i := 2) dX4_along_84 rfl rfl rfl ?_
    obtain ⟨g_8, h⟩ := Ok.gd h
    refine aw_iaload (n := 86) hG.1 (sF_4 hS) (aIn_in g_8) dX4_along_85 rfl ?_
    refine aw_isub (n := 87) dX4_along_86 rfl ?_
    exact aw_iret rfl (by decide) (by decide) dX4_along_87 ⟨_, rfl, rfl, (Ok.dn h :)⟩
  replace h := Ok.iff h c3
  refine aw_tableOut (tgt := 88) dX4_along_1 (sw_out (lo := 1) (hi := 4) (fun n h1 h2 => ?_)) (by decide) ?_
  · rcases (by omega : n = 1 ∨ n = 2 ∨ n = 3 ∨ n = 4) with rfl | rfl | rfl | rfl
    · exact sw_at (by decide) c0
    · exact sw_at (by decide) c1
    · exact sw_at (by decide) c2
    · exact sw_at (by decide) c3
  refine aw_iconst (n := 89) (v := 0) dX4_along_88 rfl (by decide) ?_
  exact aw_iret rfl (by decide) (by decide) dX4_along_89 ⟨_, rfl, rfl, (Ok.dn h :)⟩
theorem dX8_smellsIn_0 : decode cX8_smellsIn 0 = .ok (.iload_n 1, 1) := by decide +kernel
theorem dX8_smellsIn_1 : decode cX8_smellsIn 1 = .ok (.aload_n 0, 1) := by decide +kernel
theorem dX8_smellsIn_2 : decode cX8_smellsIn 2 = .ok (.getfield 7, 3) := by decide +kernel
theorem dX8_smellsIn_5 : decode cX8_smellsIn 5 = .ok (.if_icmp .lt 31, 3) := by decide +kernel
theorem dX8_smellsIn_8 : decode cX8_smellsIn 8 = .ok (.iload_n 1, 1) := by decide +kernel
theorem dX8_smellsIn_9 : decode cX8_smellsIn 9 = .ok (.aload_n 0, 1) := by decide +kernel
theorem dX8_smellsIn_10 : decode cX8_smellsIn 10 = .ok (.getfield 13, 3) := by decide +kernel
theorem dX8_smellsIn_13 : decode cX8_smellsIn 13 = .ok (.if_icmp .gt 23, 3) := by decide +kernel
theorem dX8_smellsIn_16 : decode cX8_smellsIn 16 = .ok (.iload_n 2, 1) := by decide +kernel
theorem dX8_smellsIn_17 : decode cX8_smellsIn 17 = .ok (.aload_n 0, 1) := by decide +kernel
theorem dX8_smellsIn_18 : decode cX8_smellsIn 18 = .ok (.getfield 16, 3) := by decide +kernel
theorem dX8_smellsIn_21 : decode cX8_smellsIn 21 = .ok (.if_icmp .lt 15, 3) := by decide +kernel
theorem dX8_smellsIn_24 : decode cX8_smellsIn 24 = .ok (.iload_n 2, 1) := by decide +kernel
theorem dX8_smellsIn_25 : decode cX8_smellsIn 25 = .ok (.aload_n 0, 1) := by decide +kernel
theorem dX8_smellsIn_26 : decode cX8_smellsIn 26 = .ok (.getfield 19, 3) := by decide +kernel
theorem dX8_smellsIn_29 : decode cX8_smellsIn 29 = .ok (.if_icmp .gt 7, 3) := by decide +kernel
theorem dX8_smellsIn_32 : decode cX8_smellsIn 32 = .ok (.iconst 1, 1) := by decide +kernel
theorem dX8_smellsIn_33 : decode cX8_smellsIn 33 = .ok (.goto 4, 3) := by decide +kernel
theorem dX8_smellsIn_36 : decode cX8_smellsIn 36 = .ok (.iconst 0, 1) := by decide +kernel
theorem dX8_smellsIn_37 : decode cX8_smellsIn 37 = .ok (.ireturn, 1) := by decide +kernel
def f_X8_smellsIn (q0 : Nat) (v1 : Int32) (v2 : Int32) (D : aD) : Option (Int32 × aD) :=
  if v1 < gI D q0 1 then (some (0, D)) else (if gI D q0 2 < v1 then (some (0, D)) else (if v2 < gI D q0 3 then (some (0, D)) else (if gI D q0 4 < v2 then (some (0, D)) else (some (1, D)))))
set_option maxRecDepth 100000 in
set_option maxHeartbeats 800000 in
theorem c_X8_smellsIn {G : aG} (hG : gOK G) {shp : List aSh} (hS : aShp shp) {fr : Option Nat} {q0 : Nat} {v1 : Int32} {v2 : Int32} {D : aD} {K : Int32 → aD → Prop} (h : Ok2 (f_X8_smellsIn q0 v1 v2 D) K) (hq0 : shp[q0]? = some (.inr (8, [none, none, none, none, none, none, none]))) : AC G (aRm 1 0 0) M_X8_smellsIn [.ref q0, .int v1, .int v2] fr shp D (aQi shp K) := by
  replace h := Ok2.ok h
  unfold f_X8_smellsIn at h
  refine AC.of (al := [some (.ref q0), some (.int v1), some (.int v2)]) (r := 0) (by decide) (Nat.le_of_ble_eq_true rfl) rfl ?_
  refine aw_iload_n (n := 1) (i := 1) dX8_smellsIn_0 rfl rfl rfl ?_
  refine aw_aload_n (n := 2) (i := 0) dX8_smellsIn_1 rfl rfl rfl ?_
  refine aw_getI (n := 5) (j := 1) hG.1 fl_RX8_7 hq0 rfl dX8_smellsIn_2 rfl ?_
  refine aw_icmp_lt (n := 8) (tgt := 36) dX8_smellsIn_5 rfl (by decide) (fun c => ?_) (fun c => ?_)
  · replace h := Ok.ift h c
    refine aw_iconst (n := 37) (v := 0) dX8_smellsIn_36 rfl (by decide) ?_
    exact aw_zret rfl (by decide) (by decide) (by decide) dX8_smellsIn_37 ⟨_, rfl, rfl, (Ok.dn h :)⟩
  · replace h := Ok.iff h c
    refine aw_iload_n (n := 9) (i := 1) dX8_smellsIn_8 rfl rfl rfl ?_
    refine aw_aload_n (n := 10) (i := 0) dX8_smellsIn_9 rfl rfl rfl ?_
    refine aw_getI (n := 13) (j := 2) hG.1 fl_RX8_13 hq0 rfl dX8_smellsIn_10 rfl ?_
    refine aw_icmp_gt (n := 16) (tgt := 36) dX8_smellsIn_13 rfl (by decide) (fun c => ?_) (fun c => ?_)
    · replace h := Ok.ift h c
      refine aw_iconst (n := 37) (v := 0) dX8_smellsIn_36 rfl (by decide) ?_
      exact aw_zret rfl (by decide) (by decide) (by decide) dX8_smellsIn_37 ⟨_, rfl, rfl, (Ok.dn h :)⟩
    · replace h := Ok.iff h c
      refine aw_iload_n (n := 17) (i := 2) dX8_smellsIn_16 rfl rfl rfl ?_
      refine aw_aload_n (n := 18) (i := 0) dX8_smellsIn_17 rfl rfl rfl ?_
      refine aw_getI (n := 21) (j := 3) hG.1 fl_RX8_16 hq0 rfl dX8_smellsIn_18 rfl ?_
      refine aw_icmp_lt (n := 24) (tgt := 36) dX8_smellsIn_21 rfl (by decide) (fun c => ?_) (fun c => ?_)
      · replace h := Ok.ift h c
        refine aw_iconst (n := 37) (v := 0) dX8_smellsIn_36 rfl (by decide) ?_
        exact aw_zret rfl (by decide) (by decide) (by decide) dX8_smellsIn_37 ⟨_, rfl, rfl, (Ok.dn h :)⟩
      · replace h := Ok.iff h c
        refine aw_iload_n (n := 25) (i := 2) dX8_smellsIn_24 rfl rfl rfl ?_
        refine aw_aload_n (n := 26) (i := 0) dX8_smellsIn_25 rfl rfl rfl ?_
        refine aw_getI (n := 29) (j := 4) hG.1 fl_RX8_19 hq0 rfl dX8_smellsIn_26 rfl ?_
        refine aw_icmp_gt (n := 32) (tgt := 36) dX8_smellsIn_29 rfl (by decide) (fun c => ?_) (fun c => ?_)
        · replace h := Ok.ift h c
          refine aw_iconst (n := 37) (v := 0) dX8_smellsIn_36 rfl (by decide) ?_
          exact aw_zret rfl (by decide) (by decide) (by decide) dX8_smellsIn_37 ⟨_, rfl, rfl, (Ok.dn h :)⟩
        · replace h := Ok.iff h c
          refine aw_iconst (n := 33) (v := 1) dX8_smellsIn_32 rfl (by decide) ?_
          refine aw_goto (tgt := 37) dX8_smellsIn_33 (by decide) ?_
          exact aw_zret rfl (by decide) (by decide) (by decide) dX8_smellsIn_37 ⟨_, rfl, rfl, (Ok.dn h :)⟩
theorem dX4_steps_0 : decode cX4_steps 0 = .ok (.aload_n 0, 1) := by decide +kernel
theorem dX4_steps_1 : decode cX4_steps 1 = .ok (.getfield 9, 3) := by decide +kernel
theorem dX4_steps_4 : decode cX4_steps 4 = .ok (.iload_n 2, 1) := by decide +kernel
theorem dX4_steps_5 : decode cX4_steps 5 = .ok (.iaload, 1) := by decide +kernel
theorem dX4_steps_6 : decode cX4_steps 6 = .ok (.aload_n 0, 1) := by decide +kernel
theorem dX4_steps_7 : decode cX4_steps 7 = .ok (.getfield 9, 3) := by decide +kernel
theorem dX4_steps_10 : decode cX4_steps 10 = .ok (.iload_n 1, 1) := by decide +kernel
theorem dX4_steps_11 : decode cX4_steps 11 = .ok (.iaload, 1) := by decide +kernel
theorem dX4_steps_12 : decode cX4_steps 12 = .ok (.isub, 1) := by decide +kernel
theorem dX4_steps_13 : decode cX4_steps 13 = .ok (.invokestatic 32, 3) := by decide +kernel
theorem dX4_steps_16 : decode cX4_steps 16 = .ok (.aload_n 0, 1) := by decide +kernel
theorem dX4_steps_17 : decode cX4_steps 17 = .ok (.getfield 15, 3) := by decide +kernel
theorem dX4_steps_20 : decode cX4_steps 20 = .ok (.iload_n 2, 1) := by decide +kernel
theorem dX4_steps_21 : decode cX4_steps 21 = .ok (.iaload, 1) := by decide +kernel
theorem dX4_steps_22 : decode cX4_steps 22 = .ok (.aload_n 0, 1) := by decide +kernel
theorem dX4_steps_23 : decode cX4_steps 23 = .ok (.getfield 15, 3) := by decide +kernel
theorem dX4_steps_26 : decode cX4_steps 26 = .ok (.iload_n 1, 1) := by decide +kernel
theorem dX4_steps_27 : decode cX4_steps 27 = .ok (.iaload, 1) := by decide +kernel
theorem dX4_steps_28 : decode cX4_steps 28 = .ok (.isub, 1) := by decide +kernel
theorem dX4_steps_29 : decode cX4_steps 29 = .ok (.invokestatic 32, 3) := by decide +kernel
theorem dX4_steps_32 : decode cX4_steps 32 = .ok (.iadd, 1) := by decide +kernel
theorem dX4_steps_33 : decode cX4_steps 33 = .ok (.ireturn, 1) := by decide +kernel
def f_X4_steps (v1 : Int32) (v2 : Int32) (D : aD) : Option (Int32 × aD) :=
  aGd (aIn v2 64) (aGd (aIn v1 64) (aGd (aIn v2 64) (aGd (aIn v1 64) (some ((if 0 ≤ ((gI D 4 v2.toNatClampNeg) - (gI D 4 v1.toNatClampNeg)) then ((gI D 4 v2.toNatClampNeg) - (gI D 4 v1.toNatClampNeg)) else 0 - ((gI D 4 v2.toNatClampNeg) - (gI D 4 v1.toNatClampNeg))) + (if 0 ≤ ((gI D 5 v2.toNatClampNeg) - (gI D 5 v1.toNatClampNeg)) then ((gI D 5 v2.toNatClampNeg) - (gI D 5 v1.toNatClampNeg)) else 0 - ((gI D 5 v2.toNatClampNeg) - (gI D 5 v1.toNatClampNeg))), D)))))
set_option maxRecDepth 100000 in
set_option maxHeartbeats 800000 in
theorem c_X4_steps {G : aG} (hG : gOK G) {shp : List aSh} (hS : aShp shp) {fr : Option Nat} {v1 : Int32} {v2 : Int32} {D : aD} {K : Int32 → aD → Prop} (h : Ok2 (f_X4_steps v1 v2 D) K) : AC G (aRm 1 0 0) M_X4_steps [.ref 3, .int v1, .int v2] fr shp D (aQi shp K) := by
  replace h := Ok2.ok h
  unfold f_X4_steps at h
  refine AC.of (al := [some (.ref 3), some (.int v1), some (.int v2)]) (r := 0) (by decide) (Nat.le_of_ble_eq_true rfl) rfl ?_
  refine aw_aload_n (n := 1) (i := 0) dX4_steps_0 rfl rfl rfl ?_
  refine aw_getR (n := 4) (j := 2) (r := 4) hG.1 fl_RX4_9 (sF_3 hS) rfl dX4_steps_1 rfl ?_
  refine aw_iload_n (n := 5) (i := 2) dX4_steps_4 rfl rfl rfl ?_
  obtain ⟨g_1, h⟩ := Ok.gd h
  refine aw_iaload (n := 6) hG.1 (sF_4 hS) (aIn_in g_1) dX4_steps_5 rfl ?_
  refine aw_aload_n (n := 7) (i := 0) dX4_steps_6 rfl rfl rfl ?_
  refine aw_getR (n := 10) (j := 2) (r := 4) hG.1 fl_RX4_9 (sF_3 hS) rfl dX4_steps_7 rfl ?_
  refine aw_iload_n (n := 11) (i := 1) dX4_steps_10 rfl rfl rfl ?_
  obtain ⟨g_2, h⟩ := Ok.gd h
  refine aw_iaload (n := 12) hG.1 (sF_4 hS) (aIn_in g_2) dX4_steps_11 rfl ?_
  refine aw_isub (n := 13) dX4_steps_12 rfl ?_
  refine aw_abs (M := M_X4_steps) (n := 16) lm_RX4_32 mm_abs.1 mm_abs.2.1 mm_abs.2.2 (by decide) (Nat.le_of_ble_eq_true rfl) (by decide) (by decide) dX4_steps_13 rfl ?_
  refine aw_aload_n (n := 17) (i := 0) dX4_steps_16 rfl rfl rfl ?_
  refine aw_getR (n := 20) (j := 3) (r := 5) hG.1 fl_RX4_15 (sF_3 hS) rfl dX4_steps_17 rfl ?_
  refine aw_iload_n (n := 21) (i := 2) dX4_steps_20 rfl rfl rfl ?_
  obtain ⟨g_3, h⟩ := Ok.gd h
  refine aw_iaload (n := 22) hG.1 (sF_5 hS) (aIn_in g_3) dX4_steps_21 rfl ?_
  refine aw_aload_n (n := 23) (i := 0) dX4_steps_22 rfl rfl rfl ?_
  refine aw_getR (n := 26) (j := 3) (r := 5) hG.1 fl_RX4_15 (sF_3 hS) rfl dX4_steps_23 rfl ?_
  refine aw_iload_n (n := 27) (i := 1) dX4_steps_26 rfl rfl rfl ?_
  obtain ⟨g_4, h⟩ := Ok.gd h
  refine aw_iaload (n := 28) hG.1 (sF_5 hS) (aIn_in g_4) dX4_steps_27 rfl ?_
  refine aw_isub (n := 29) dX4_steps_28 rfl ?_
  refine aw_abs (M := M_X4_steps) (n := 32) lm_RX4_32 mm_abs.1 mm_abs.2.1 mm_abs.2.2 (by decide) (Nat.le_of_ble_eq_true rfl) (by decide) (by decide) dX4_steps_29 rfl ?_
  refine aw_iadd (n := 33) dX4_steps_32 rfl ?_
  exact aw_iret rfl (by decide) (by decide) dX4_steps_33 ⟨_, rfl, rfl, (Ok.dn h :)⟩
theorem dX6_scent_0 : decode cX6_scent 0 = .ok (.aload_n 0, 1) := by decide +kernel
theorem dX6_scent_1 : decode cX6_scent 1 = .ok (.getfield 20, 3) := by decide +kernel
theorem dX6_scent_4 : decode cX6_scent 4 = .ok (.iload_n 1, 1) := by decide +kernel
theorem dX6_scent_5 : decode cX6_scent 5 = .ok (.aaload, 1) := by decide +kernel
theorem dX6_scent_6 : decode cX6_scent 6 = .ok (.astore 8, 2) := by decide +kernel
theorem dX6_scent_8 : decode cX6_scent 8 = .ok (.aload_n 0, 1) := by decide +kernel
theorem dX6_scent_9 : decode cX6_scent 9 = .ok (.getfield 12, 3) := by decide +kernel
theorem dX6_scent_12 : decode cX6_scent 12 = .ok (.iload_n 3, 1) := by decide +kernel
theorem dX6_scent_13 : decode cX6_scent 13 = .ok (.iload 4, 2) := by decide +kernel
theorem dX6_scent_15 : decode cX6_scent 15 = .ok (.iload 7, 2) := by decide +kernel
theorem dX6_scent_17 : decode cX6_scent 17 = .ok (.invokevirtual 103, 3) := by decide +kernel
theorem dX6_scent_20 : decode cX6_scent 20 = .ok (.istore 9, 2) := by decide +kernel
theorem dX6_scent_22 : decode cX6_scent 22 = .ok (.aload 8, 2) := by decide +kernel
theorem dX6_scent_24 : decode cX6_scent 24 = .ok (.iload 5, 2) := by decide +kernel
theorem dX6_scent_26 : decode cX6_scent 26 = .ok (.iload 6, 2) := by decide +kernel
theorem dX6_scent_28 : decode cX6_scent 28 = .ok (.invokevirtual 107, 3) := by decide +kernel
theorem dX6_scent_31 : decode cX6_scent 31 = .ok (.ifCond .eq 13, 3) := by decide +kernel
theorem dX6_scent_34 : decode cX6_scent 34 = .ok (.iload 9, 2) := by decide +kernel
theorem dX6_scent_36 : decode cX6_scent 36 = .ok (.ineg, 1) := by decide +kernel
theorem dX6_scent_37 : decode cX6_scent 37 = .ok (.aload_n 0, 1) := by decide +kernel
theorem dX6_scent_38 : decode cX6_scent 38 = .ok (.getfield 74, 3) := by decide +kernel
theorem dX6_scent_41 : decode cX6_scent 41 = .ok (.if_icmp .le 5, 3) := by decide +kernel
theorem dX6_scent_44 : decode cX6_scent 44 = .ok (.iconst 0, 1) := by decide +kernel
theorem dX6_scent_45 : decode cX6_scent 45 = .ok (.ireturn, 1) := by decide +kernel
theorem dX6_scent_46 : decode cX6_scent 46 = .ok (.iconst 0, 1) := by decide +kernel
theorem dX6_scent_47 : decode cX6_scent 47 = .ok (.aload 8, 2) := by decide +kernel
theorem dX6_scent_49 : decode cX6_scent 49 = .ok (.getfield 111, 3) := by decide +kernel
theorem dX6_scent_52 : decode cX6_scent 52 = .ok (.iload_n 2, 1) := by decide +kernel
theorem dX6_scent_53 : decode cX6_scent 53 = .ok (.imul, 1) := by decide +kernel
theorem dX6_scent_54 : decode cX6_scent 54 = .ok (.aload_n 0, 1) := by decide +kernel
theorem dX6_scent_55 : decode cX6_scent 55 = .ok (.getfield 68, 3) := by decide +kernel
theorem dX6_scent_58 : decode cX6_scent 58 = .ok (.aload_n 0, 1) := by decide +kernel
theorem dX6_scent_59 : decode cX6_scent 59 = .ok (.getfield 12, 3) := by decide +kernel
theorem dX6_scent_62 : decode cX6_scent 62 = .ok (.iload_n 3, 1) := by decide +kernel
theorem dX6_scent_63 : decode cX6_scent 63 = .ok (.iload 4, 2) := by decide +kernel
theorem dX6_scent_65 : decode cX6_scent 65 = .ok (.invokevirtual 114, 3) := by decide +kernel
theorem dX6_scent_68 : decode cX6_scent 68 = .ok (.imul, 1) := by decide +kernel
theorem dX6_scent_69 : decode cX6_scent 69 = .ok (.isub, 1) := by decide +kernel
theorem dX6_scent_70 : decode cX6_scent 70 = .ok (.aload_n 0, 1) := by decide +kernel
theorem dX6_scent_71 : decode cX6_scent 71 = .ok (.getfield 71, 3) := by decide +kernel
theorem dX6_scent_74 : decode cX6_scent 74 = .ok (.iload 9, 2) := by decide +kernel
theorem dX6_scent_76 : decode cX6_scent 76 = .ok (.imul, 1) := by decide +kernel
theorem dX6_scent_77 : decode cX6_scent 77 = .ok (.iadd, 1) := by decide +kernel
theorem dX6_scent_78 : decode cX6_scent 78 = .ok (.invokestatic 118, 3) := by decide +kernel
theorem dX6_scent_81 : decode cX6_scent 81 = .ok (.ireturn, 1) := by decide +kernel
def f_X6_scent (v1 : Int32) (v2 : Int32) (v3 : Int32) (v4 : Int32) (v5 : Int32) (v6 : Int32) (v7 : Int32) (D : aD) : Option (Int32 × aD) :=
  aGd (aIn v1 6) (aBi (f_X4_along v3 v4 v7 D) (fun y_2 D_3 => aBi (f_X8_smellsIn (15 + v1.toNatClampNeg) v5 v6 D_3) (fun y_4 D_5 => if y_4 = 0 then (some (0, D_5)) else (if -y_2 ≤ gI D_5 2 8 then (aBi (f_X4_steps v3 v4 D_5) (fun y_6 D_7 => some (if 0 < ((((gI D_5 (15 + v1.toNatClampNeg) 0) * v2) - ((gI D_5 2 6) * y_6)) + ((gI D_7 2 7) * y_2)) then ((((gI D_5 (15 + v1.toNatClampNeg) 0) * v2) - ((gI D_5 2 6) * y_6)) + ((gI D_7 2 7) * y_2)) else 0, D_7))) else (some (0, D_5))))))
set_option maxRecDepth 100000 in
set_option maxHeartbeats 800000 in
theorem c_X6_scent {G : aG} (hG : gOK G) {shp : List aSh} (hS : aShp shp) {fr : Option Nat} {v1 : Int32} {v2 : Int32} {v3 : Int32} {v4 : Int32} {v5 : Int32} {v6 : Int32} {v7 : Int32} {D : aD} {K : Int32 → aD → Prop} (h : Ok2 (f_X6_scent v1 v2 v3 v4 v5 v6 v7 D) K) : AC G (aRm 2 0 0) M_X6_scent [.ref 2, .int v1, .int v2, .int v3, .int v4, .int v5, .int v6, .int v7] fr shp D (aQi shp K) := by
  replace h := Ok2.ok h
  unfold f_X6_scent at h
  refine AC.of (al := [some (.ref 2), some (.int v1), some (.int v2), some (.int v3), some (.int v4), some (.int v5), some (.int v6), some (.int v7), none, none]) (r := 2) (by decide) (Nat.le_of_ble_eq_true rfl) rfl ?_
  refine aw_aload_n (n := 1) (i := 0) dX6_scent_0 rfl rfl rfl ?_
  refine aw_getR (n := 4) (j := 1) (r := 7) hG.1 fl_RX6_20 (sF_2 hS) rfl dX6_scent_1 rfl ?_
  refine aw_iload_n (n := 5) (i := 1) dX6_scent_4 rfl rfl rfl ?_
  obtain ⟨g_1, h⟩ := Ok.gd h
  refine aw_aaload (n := 6) (t := 4) (r := (15 + v1.toNatClampNeg)) hG.1 (by decide) rfl (sF_7 hS) (aIn_in g_1) (rs_7 (aIn_lt g_1)) dX6_scent_5 rfl ?_
  refine aw_astore (n := 8) (i := 8) (al' := [some (.ref 2), some (.int v1), some (.int v2), some (.int v3), some (.int v4), some (.int v5), some (.int v6), some (.int v7), some (.ref (15 + v1.toNatClampNeg)), none]) dX6_scent_6 rfl rfl (by decide) rfl ?_
  refine aw_aload_n (n := 9) (i := 0) dX6_scent_8 rfl rfl rfl ?_
  refine aw_getR (n := 12) (j := 0) (r := 3) hG.1 fl_RX6_12 (sF_2 hS) rfl dX6_scent_9 rfl ?_
  refine aw_iload_n (n := 13) (i := 3) dX6_scent_12 rfl rfl rfl ?_
  refine aw_iload (n := 15) (i := 4) dX6_scent_13 rfl rfl ?_
  refine aw_iload (n := 17) (i := 7) dX6_scent_15 rfl rfl ?_
  refine aw_cVi (M := M_X6_scent) (n := 20) (As := [.int v3, .int v4, .int v7]) (rest := []) hG.1 lk_RX6_103 rfl rfl (sF_3 hS) (c_X4_along hG hS (h := Ok.bi h)) (by decide) (Nat.le_of_ble_eq_true rfl) (by decide) (by decide) dX6_scent_17 rfl (fun y_2 D_3 h => ?_)
  refine aw_istore (n := 22) (i := 9) (al' := [some (.ref 2), some (.int v1), some (.int v2), some (.int v3), some (.int v4), some (.int v5), some (.int v6), some (.int v7), some (.ref (15 + v1.toNatClampNeg)), some (.int y_2)]) dX6_scent_20 rfl rfl (by decide) rfl ?_
  refine aw_aload (n := 24) (i := 8) dX6_scent_22 rfl rfl ?_
  refine aw_iload (n := 26) (i := 5) dX6_scent_24 rfl rfl ?_
  refine aw_iload (n := 28) (i := 6) dX6_scent_26 rfl rfl ?_
  refine aw_cVi (M := M_X6_scent) (n := 31) (As := [.int v5, .int v6]) (rest := []) hG.1 lk_RX6_107 rfl rfl (so_15 hS (aIn_lt g_1)) (c_X8_smellsIn hG hS (h := Ok.bi h) (so_15 hS (aIn_lt g_1))) (by decide) (Nat.le_of_ble_eq_true rfl) (by decide) (by decide) dX6_scent_28 rfl (fun y_4 D_5 h => ?_)
  refine aw_if_eq (n := 34) (tgt := 44) dX6_scent_31 rfl (by decide) (fun c => ?_) (fun c => ?_)
  · replace h := Ok.ift h c
    refine aw_iconst (n := 45) (v := 0) dX6_scent_44 rfl (by decide) ?_
    exact aw_iret rfl (by decide) (by decide) dX6_scent_45 ⟨_, rfl, rfl, (Ok.dn h :)⟩
  · replace h := Ok.iff h c
    refine aw_iload (n := 36) (i := 9) dX6_scent_34 rfl rfl ?_
    refine aw_ineg (n := 37) dX6_scent_36 rfl ?_
    refine aw_aload_n (n := 38) (i := 0) dX6_scent_37 rfl rfl rfl ?_
    refine aw_getI (n := 41) (j := 8) hG.1 fl_RX6_74 (sF_2 hS) rfl dX6_scent_38 rfl ?_
    refine aw_icmp_le (n := 44) (tgt := 46) dX6_scent_41 rfl (by decide) (fun c => ?_) (fun c => ?_)
    · replace h := Ok.ift h c
      refine aw_iconst (n := 47) (v := 0) dX6_scent_46 rfl (by decide) ?_
      refine aw_aload (n := 49) (i := 8) dX6_scent_47 rfl rfl ?_
      refine aw_getI (n := 52) (j := 0) hG.1 fl_RX6_111 (so_15 hS (aIn_lt g_1)) rfl dX6_scent_49 rfl ?_
      refine aw_iload_n (n := 53) (i := 2) dX6_scent_52 rfl rfl rfl ?_
      refine aw_imul (n := 54) dX6_scent_53 rfl ?_
      refine aw_aload_n (n := 55) (i := 0) dX6_scent_54 rfl rfl rfl ?_
      refine aw_getI (n := 58) (j := 6) hG.1 fl_RX6_68 (sF_2 hS) rfl dX6_scent_55 rfl ?_
      refine aw_aload_n (n := 59) (i := 0) dX6_scent_58 rfl rfl rfl ?_
      refine aw_getR (n := 62) (j := 0) (r := 3) hG.1 fl_RX6_12 (sF_2 hS) rfl dX6_scent_59 rfl ?_
      refine aw_iload_n (n := 63) (i := 3) dX6_scent_62 rfl rfl rfl ?_
      refine aw_iload (n := 65) (i := 4) dX6_scent_63 rfl rfl ?_
      refine aw_cVi (M := M_X6_scent) (n := 68) (As := [.int v3, .int v4]) (rest := [.int (gI D_5 2 6), .int ((gI D_5 (15 + v1.toNatClampNeg) 0) * v2), .int 0]) hG.1 lk_RX6_114 rfl rfl (sF_3 hS) (c_X4_steps hG hS (h := Ok.bi h)) (by decide) (Nat.le_of_ble_eq_true rfl) (by decide) (by decide) dX6_scent_65 rfl (fun y_6 D_7 h => ?_)
      refine aw_imul (n := 69) dX6_scent_68 rfl ?_
      refine aw_isub (n := 70) dX6_scent_69 rfl ?_
      refine aw_aload_n (n := 71) (i := 0) dX6_scent_70 rfl rfl rfl ?_
      refine aw_getI (n := 74) (j := 7) hG.1 fl_RX6_71 (sF_2 hS) rfl dX6_scent_71 rfl ?_
      refine aw_iload (n := 76) (i := 9) dX6_scent_74 rfl rfl ?_
      refine aw_imul (n := 77) dX6_scent_76 rfl ?_
      refine aw_iadd (n := 78) dX6_scent_77 rfl ?_
      refine aw_max (M := M_X6_scent) (n := 81) lm_RX6_118 mm_max.1 mm_max.2.1 mm_max.2.2 (by decide) (Nat.le_of_ble_eq_true rfl) (by decide) (by decide) dX6_scent_78 rfl ?_
      exact aw_iret rfl (by decide) (by decide) dX6_scent_81 ⟨_, rfl, rfl, (Ok.dn h :)⟩
    · replace h := Ok.iff h c
      refine aw_iconst (n := 45) (v := 0) dX6_scent_44 rfl (by decide) ?_
      exact aw_iret rfl (by decide) (by decide) dX6_scent_45 ⟨_, rfl, rfl, (Ok.dn h :)⟩
theorem dX6_allWeights_0 : decode cX6_allWeights 0 = .ok (.iconst 0, 1) := by decide +kernel
theorem dX6_allWeights_1 : decode cX6_allWeights 1 = .ok (.istore_n 1, 1) := by decide +kernel
theorem dX6_allWeights_2 : decode cX6_allWeights 2 = .ok (.iconst 0, 1) := by decide +kernel
theorem dX6_allWeights_3 : decode cX6_allWeights 3 = .ok (.istore_n 2, 1) := by decide +kernel
theorem dX6_allWeights_4 : decode cX6_allWeights 4 = .ok (.iload_n 2, 1) := by decide +kernel
theorem dX6_allWeights_5 : decode cX6_allWeights 5 = .ok (.iconst 5, 1) := by decide +kernel
theorem dX6_allWeights_6 : decode cX6_allWeights 6 = .ok (.if_icmp .ge 18, 3) := by decide +kernel
theorem dX6_allWeights_9 : decode cX6_allWeights 9 = .ok (.iload_n 1, 1) := by decide +kernel
theorem dX6_allWeights_10 : decode cX6_allWeights 10 = .ok (.aload_n 0, 1) := by decide +kernel
theorem dX6_allWeights_11 : decode cX6_allWeights 11 = .ok (.getfield 44, 3) := by decide +kernel
theorem dX6_allWeights_14 : decode cX6_allWeights 14 = .ok (.iload_n 2, 1) := by decide +kernel
theorem dX6_allWeights_15 : decode cX6_allWeights 15 = .ok (.iaload, 1) := by decide +kernel
theorem dX6_allWeights_16 : decode cX6_allWeights 16 = .ok (.iadd, 1) := by decide +kernel
theorem dX6_allWeights_17 : decode cX6_allWeights 17 = .ok (.istore_n 1, 1) := by decide +kernel
theorem dX6_allWeights_18 : decode cX6_allWeights 18 = .ok (.iinc 2 1, 3) := by decide +kernel
theorem dX6_allWeights_21 : decode cX6_allWeights 21 = .ok (.goto (-17), 3) := by decide +kernel
theorem dX6_allWeights_24 : decode cX6_allWeights 24 = .ok (.iload_n 1, 1) := by decide +kernel
theorem dX6_allWeights_25 : decode cX6_allWeights 25 = .ok (.ireturn, 1) := by decide +kernel
def J_X6_allWeights_24 (v1 : Int32) (D : aD) : Option (Int32 × aD) :=
  some (v1, D)
def B_X6_allWeights_4 (v1 : Int32) (v2 : Int32) (D : aD) : Option ((Int32 × Int32 × aD) ⊕ ((Int32 × aD))) :=
  if 5 ≤ v2 then (some (.inr (v1, D))) else (aGd (aIn v2 5) (aLet (v1 + (gI D 14 v2.toNatClampNeg)) (fun v1_2 => aLet (v2 + 1) (fun v2_3 => some (.inl (v1_2, v2_3, D))))))
def J_X6_allWeights_4 (v1 : Int32) (v2 : Int32) (D : aD) : Option (Int32 × aD) :=
  (aLp (fun s => B_X6_allWeights_4 s.1 s.2.1 s.2.2) (v1, v2, D)).bind (fun r => J_X6_allWeights_24 (r.1) r.2)
def f_X6_allWeights (D : aD) : Option (Int32 × aD) :=
  J_X6_allWeights_4 0 0 D
set_option maxRecDepth 100000 in
set_option maxHeartbeats 800000 in
theorem c_X6_allWeights {G : aG} (hG : gOK G) {shp : List aSh} (hS : aShp shp) {fr : Option Nat} {D : aD} {K : Int32 → aD → Prop} (h : Ok2 (f_X6_allWeights D) K) : AC G (aRm 1 0 0) M_X6_allWeights [.ref 2] fr shp D (aQi shp K) := by
  replace h := Ok2.ok h
  unfold f_X6_allWeights at h
  refine AC.of (al := [some (.ref 2), none, none]) (r := 2) (by decide) (Nat.le_of_ble_eq_true rfl) rfl ?_
  have hJ_24 : ∀ (v1 : Int32) (D : aD), Ok (J_X6_allWeights_24 v1 D) (fun r => K r.1 r.2) → AW G (aRm 1 0 0) M_X6_allWeights fr 0 0 24 [none, some (.int v1), none] [] shp D (aQi shp K) := by
    intro v1 D h
    unfold J_X6_allWeights_24 at h
    refine aw_iload_n (n := 25) (i := 1) dX6_allWeights_24 rfl rfl rfl ?_
    exact aw_iret rfl (by decide) (by decide) dX6_allWeights_25 ⟨_, rfl, rfl, (Ok.dn h :)⟩
  have hJ_4 : ∀ (v1 : Int32) (v2 : Int32) (D : aD), Ok (J_X6_allWeights_4 v1 v2 D) (fun r => K r.1 r.2) → AW G (aRm 1 0 0) M_X6_allWeights fr 0 0 4 [some (.ref 2), some (.int v1), some (.int v2)] [] shp D (aQi shp K) := by
    intro v1 v2 D h
    unfold J_X6_allWeights_4 at h
    refine Ok.lp (P := fun s => AW G (aRm 1 0 0) M_X6_allWeights fr 0 0 4 [some (.ref 2), some (.int (s.1)), some (.int (s.2.1))] [] shp s.2.2 (aQi shp K)) (fun s Kb4 hL4 hR4 h => ?_) (v1, v2, D) (Ok.bind h)
    obtain ⟨v1, v2, D⟩ := s
    replace h : Ok (B_X6_allWeights_4 v1 v2 D) Kb4 := h
    unfold B_X6_allWeights_4 at h
    refine aw_iload_n (n := 5) (i := 2) dX6_allWeights_4 rfl rfl rfl ?_
    refine aw_iconst (n := 6) (v := 5) dX6_allWeights_5 rfl (by decide) ?_
    refine aw_icmp_ge (n := 9) (tgt := 24) dX6_allWeights_6 rfl (by decide) (fun c => ?_) (fun c => ?_)
    · replace h := Ok.ift h c
      exact aw_le' (hJ_24 v1 D (hR4 (v1, D) (Ok.dn h :))) ⟨rfl, trivial⟩
    · replace h := Ok.iff h c
      refine aw_iload_n (n := 10) (i := 1) dX6_allWeights_9 rfl rfl rfl ?_
      refine aw_aload_n (n := 11) (i := 0) dX6_allWeights_10 rfl rfl rfl ?_
      refine aw_getR (n := 14) (j := 16) (r := 14) hG.1 fl_RX6_44 (sF_2 hS) rfl dX6_allWeights_11 rfl ?_
      refine aw_iload_n (n := 15) (i := 2) dX6_allWeights_14 rfl rfl rfl ?_
      obtain ⟨g_1, h⟩ := Ok.gd h
      refine aw_iaload (n := 16) hG.1 (sF_14 hS) (aIn_in g_1) dX6_allWeights_15 rfl ?_
      refine aw_iadd (n := 17) dX6_allWeights_16 rfl ?_
      obtain ⟨v1_2, e_v1_2, h⟩ := Ok.let_ h
      refine aw_istore_n (n := 18) (i := 1) (al' := [some (.ref 2), some (.int v1_2), some (.int v2)]) dX6_allWeights_17 rfl rfl e_v1_2 (by decide) rfl ?_
      obtain ⟨v2_3, e_v2_3, h⟩ := Ok.let_ h
      refine aw_iinc (n := 21) (al' := [some (.ref 2), some (.int v1_2), some (.int v2_3)]) dX6_allWeights_18 rfl rfl e_v2_3 (by decide) rfl ?_
      refine aw_goto (tgt := 4) dX6_allWeights_21 (by decide) ?_
      exact aw_le' (hL4 (v1_2, v2_3, D) (Ok.dn h :)) ⟨rfl, ⟨rfl, ⟨rfl, trivial⟩⟩⟩
  refine aw_iconst (n := 1) (v := 0) dX6_allWeights_0 rfl (by decide) ?_
  refine aw_istore_n (n := 2) (i := 1) (al' := [some (.ref 2), some (.int 0), none]) dX6_allWeights_1 rfl rfl rfl (by decide) rfl ?_
  refine aw_iconst (n := 3) (v := 0) dX6_allWeights_2 rfl (by decide) ?_
  refine aw_istore_n (n := 4) (i := 2) (al' := [some (.ref 2), some (.int 0), some (.int 0)]) dX6_allWeights_3 rfl rfl rfl (by decide) rfl ?_
  exact aw_le' (hJ_4 0 0 D h) ⟨rfl, ⟨rfl, ⟨rfl, trivial⟩⟩⟩
theorem dX6_plantsOf_0 : decode cX6_plantsOf 0 = .ok (.iconst 0, 1) := by decide +kernel
theorem dX6_plantsOf_1 : decode cX6_plantsOf 1 = .ok (.istore_n 2, 1) := by decide +kernel
theorem dX6_plantsOf_2 : decode cX6_plantsOf 2 = .ok (.iconst 0, 1) := by decide +kernel
theorem dX6_plantsOf_3 : decode cX6_plantsOf 3 = .ok (.istore_n 3, 1) := by decide +kernel
theorem dX6_plantsOf_4 : decode cX6_plantsOf 4 = .ok (.iload_n 3, 1) := by decide +kernel
theorem dX6_plantsOf_5 : decode cX6_plantsOf 5 = .ok (.aload_n 0, 1) := by decide +kernel
theorem dX6_plantsOf_6 : decode cX6_plantsOf 6 = .ok (.getfield 62, 3) := by decide +kernel
theorem dX6_plantsOf_9 : decode cX6_plantsOf 9 = .ok (.if_icmp .ge 22, 3) := by decide +kernel
theorem dX6_plantsOf_12 : decode cX6_plantsOf 12 = .ok (.aload_n 0, 1) := by decide +kernel
theorem dX6_plantsOf_13 : decode cX6_plantsOf 13 = .ok (.getfield 31, 3) := by decide +kernel
theorem dX6_plantsOf_16 : decode cX6_plantsOf 16 = .ok (.iload_n 3, 1) := by decide +kernel
theorem dX6_plantsOf_17 : decode cX6_plantsOf 17 = .ok (.iaload, 1) := by decide +kernel
theorem dX6_plantsOf_18 : decode cX6_plantsOf 18 = .ok (.iload_n 1, 1) := by decide +kernel
theorem dX6_plantsOf_19 : decode cX6_plantsOf 19 = .ok (.if_icmp .ne 6, 3) := by decide +kernel
theorem dX6_plantsOf_22 : decode cX6_plantsOf 22 = .ok (.iinc 2 1, 3) := by decide +kernel
theorem dX6_plantsOf_25 : decode cX6_plantsOf 25 = .ok (.iinc 3 1, 3) := by decide +kernel
theorem dX6_plantsOf_28 : decode cX6_plantsOf 28 = .ok (.goto (-24), 3) := by decide +kernel
theorem dX6_plantsOf_31 : decode cX6_plantsOf 31 = .ok (.iload_n 2, 1) := by decide +kernel
theorem dX6_plantsOf_32 : decode cX6_plantsOf 32 = .ok (.ireturn, 1) := by decide +kernel
def J_X6_plantsOf_31 (v2 : Int32) (D : aD) : Option (Int32 × aD) :=
  some (v2, D)
def B_X6_plantsOf_4 (v1 : Int32) (v2 : Int32) (v3 : Int32) (D : aD) : Option ((Int32 × Int32 × aD) ⊕ ((Int32 × aD))) :=
  if gI D 2 4 ≤ v3 then (some (.inr (v2, D))) else (aGd (aIn v3 12) (if gI D 10 v3.toNatClampNeg ≠ v1 then (aLet (v3 + 1) (fun v3_2 => some (.inl (v2, v3_2, D)))) else (aLet (v2 + 1) (fun v2_3 => aLet (v3 + 1) (fun v3_4 => some (.inl (v2_3, v3_4, D)))))))
def J_X6_plantsOf_4 (v1 : Int32) (v2 : Int32) (v3 : Int32) (D : aD) : Option (Int32 × aD) :=
  (aLp (fun s => B_X6_plantsOf_4 v1 s.1 s.2.1 s.2.2) (v2, v3, D)).bind (fun r => J_X6_plantsOf_31 (r.1) r.2)
def f_X6_plantsOf (v1 : Int32) (D : aD) : Option (Int32 × aD) :=
  J_X6_plantsOf_4 v1 0 0 D
set_option maxRecDepth 100000 in
set_option maxHeartbeats 800000 in
theorem c_X6_plantsOf {G : aG} (hG : gOK G) {shp : List aSh} (hS : aShp shp) {fr : Option Nat} {v1 : Int32} {D : aD} {K : Int32 → aD → Prop} (h : Ok2 (f_X6_plantsOf v1 D) K) : AC G (aRm 1 0 0) M_X6_plantsOf [.ref 2, .int v1] fr shp D (aQi shp K) := by
  replace h := Ok2.ok h
  unfold f_X6_plantsOf at h
  refine AC.of (al := [some (.ref 2), some (.int v1), none, none]) (r := 2) (by decide) (Nat.le_of_ble_eq_true rfl) rfl ?_
  have hJ_31 : ∀ (v2 : Int32) (D : aD), Ok (J_X6_plantsOf_31 v2 D) (fun r => K r.1 r.2) → AW G (aRm 1 0 0) M_X6_plantsOf fr 0 0 31 [none, none, some (.int v2), none] [] shp D (aQi shp K) := by
    intro v2 D h
    unfold J_X6_plantsOf_31 at h
    refine aw_iload_n (n := 32) (i := 2) dX6_plantsOf_31 rfl rfl rfl ?_
    exact aw_iret rfl (by decide) (by decide) dX6_plantsOf_32 ⟨_, rfl, rfl, (Ok.dn h :)⟩
  have hJ_4 : ∀ (v1 : Int32) (v2 : Int32) (v3 : Int32) (D : aD), Ok (J_X6_plantsOf_4 v1 v2 v3 D) (fun r => K r.1 r.2) → AW G (aRm 1 0 0) M_X6_plantsOf fr 0 0 4 [some (.ref 2), some (.int v1), some (.int v2), some (.int v3)] [] shp D (aQi shp K) := by
    intro v1 v2 v3 D h
    unfold J_X6_plantsOf_4 at h
    refine Ok.lp (P := fun s => AW G (aRm 1 0 0) M_X6_plantsOf fr 0 0 4 [some (.ref 2), some (.int v1), some (.int (s.1)), some (.int (s.2.1))] [] shp s.2.2 (aQi shp K)) (fun s Kb4 hL4 hR4 h => ?_) (v2, v3, D) (Ok.bind h)
    obtain ⟨v2, v3, D⟩ := s
    replace h : Ok (B_X6_plantsOf_4 v1 v2 v3 D) Kb4 := h
    unfold B_X6_plantsOf_4 at h
    refine aw_iload_n (n := 5) (i := 3) dX6_plantsOf_4 rfl rfl rfl ?_
    refine aw_aload_n (n := 6) (i := 0) dX6_plantsOf_5 rfl rfl rfl ?_
    refine aw_getI (n := 9) (j := 4) hG.1 fl_RX6_62 (sF_2 hS) rfl dX6_plantsOf_6 rfl ?_
    refine aw_icmp_ge (n := 12) (tgt := 31) dX6_plantsOf_9 rfl (by decide) (fun c => ?_) (fun c => ?_)
    · replace h := Ok.ift h c
      exact aw_le' (hJ_31 v2 D (hR4 (v2, D) (Ok.dn h :))) ⟨rfl, trivial⟩
    · replace h := Ok.iff h c
      refine aw_aload_n (n := 13) (i := 0) dX6_plantsOf_12 rfl rfl rfl ?_
      refine aw_getR (n := 16) (j := 12) (r := 10) hG.1 fl_RX6_31 (sF_2 hS) rfl dX6_plantsOf_13 rfl ?_
      refine aw_iload_n (n := 17) (i := 3) dX6_plantsOf_16 rfl rfl rfl ?_
      obtain ⟨g_1, h⟩ := Ok.gd h
      refine aw_iaload (n := 18) hG.1 (sF_10 hS) (aIn_in g_1) dX6_plantsOf_17 rfl ?_
      refine aw_iload_n (n := 19) (i := 1) dX6_plantsOf_18 rfl rfl rfl ?_
      refine aw_icmp_ne (n := 22) (tgt := 25) dX6_plantsOf_19 rfl (by decide) (fun c => ?_) (fun c => ?_)
      · replace h := Ok.ift h c
        obtain ⟨v3_2, e_v3_2, h⟩ := Ok.let_ h
        refine aw_iinc (n := 28) (al' := [some (.ref 2), some (.int v1), some (.int v2), some (.int v3_2)]) dX6_plantsOf_25 rfl rfl e_v3_2 (by decide) rfl ?_
        refine aw_goto (tgt := 4) dX6_plantsOf_28 (by decide) ?_
        exact aw_le' (hL4 (v2, v3_2, D) (Ok.dn h :)) ⟨rfl, ⟨rfl, ⟨rfl, ⟨rfl, trivial⟩⟩⟩⟩
      · replace h := Ok.iffn h c
        obtain ⟨v2_3, e_v2_3, h⟩ := Ok.let_ h
        refine aw_iinc (n := 25) (al' := [some (.ref 2), some (.int v1), some (.int v2_3), some (.int v3)]) dX6_plantsOf_22 rfl rfl e_v2_3 (by decide) rfl ?_
        obtain ⟨v3_4, e_v3_4, h⟩ := Ok.let_ h
        refine aw_iinc (n := 28) (al' := [some (.ref 2), some (.int v1), some (.int v2_3), some (.int v3_4)]) dX6_plantsOf_25 rfl rfl e_v3_4 (by decide) rfl ?_
        refine aw_goto (tgt := 4) dX6_plantsOf_28 (by decide) ?_
        exact aw_le' (hL4 (v2_3, v3_4, D) (Ok.dn h :)) ⟨rfl, ⟨rfl, ⟨rfl, ⟨rfl, trivial⟩⟩⟩⟩
  refine aw_iconst (n := 1) (v := 0) dX6_plantsOf_0 rfl (by decide) ?_
  refine aw_istore_n (n := 2) (i := 2) (al' := [some (.ref 2), some (.int v1), some (.int 0), none]) dX6_plantsOf_1 rfl rfl rfl (by decide) rfl ?_
  refine aw_iconst (n := 3) (v := 0) dX6_plantsOf_2 rfl (by decide) ?_
  refine aw_istore_n (n := 4) (i := 3) (al' := [some (.ref 2), some (.int v1), some (.int 0), some (.int 0)]) dX6_plantsOf_3 rfl rfl rfl (by decide) rfl ?_
  exact aw_le' (hJ_4 v1 0 0 D h) ⟨rfl, ⟨rfl, ⟨rfl, ⟨rfl, trivial⟩⟩⟩⟩
theorem dX9_note_0 : decode cX9_note 0 = .ok (.aload_n 0, 1) := by decide +kernel
theorem dX9_note_1 : decode cX9_note 1 = .ok (.getfield 18, 3) := by decide +kernel
theorem dX9_note_4 : decode cX9_note 4 = .ok (.aload_n 0, 1) := by decide +kernel
theorem dX9_note_5 : decode cX9_note 5 = .ok (.getfield 49, 3) := by decide +kernel
theorem dX9_note_8 : decode cX9_note 8 = .ok (.iload_n 1, 1) := by decide +kernel
theorem dX9_note_9 : decode cX9_note 9 = .ok (.iastore, 1) := by decide +kernel
theorem dX9_note_10 : decode cX9_note 10 = .ok (.aload_n 0, 1) := by decide +kernel
theorem dX9_note_11 : decode cX9_note 11 = .ok (.getfield 21, 3) := by decide +kernel
theorem dX9_note_14 : decode cX9_note 14 = .ok (.aload_n 0, 1) := by decide +kernel
theorem dX9_note_15 : decode cX9_note 15 = .ok (.getfield 49, 3) := by decide +kernel
theorem dX9_note_18 : decode cX9_note 18 = .ok (.iload_n 2, 1) := by decide +kernel
theorem dX9_note_19 : decode cX9_note 19 = .ok (.iastore, 1) := by decide +kernel
theorem dX9_note_20 : decode cX9_note 20 = .ok (.aload_n 0, 1) := by decide +kernel
theorem dX9_note_21 : decode cX9_note 21 = .ok (.getfield 24, 3) := by decide +kernel
theorem dX9_note_24 : decode cX9_note 24 = .ok (.aload_n 0, 1) := by decide +kernel
theorem dX9_note_25 : decode cX9_note 25 = .ok (.getfield 49, 3) := by decide +kernel
theorem dX9_note_28 : decode cX9_note 28 = .ok (.iload_n 3, 1) := by decide +kernel
theorem dX9_note_29 : decode cX9_note 29 = .ok (.iastore, 1) := by decide +kernel
theorem dX9_note_30 : decode cX9_note 30 = .ok (.aload_n 0, 1) := by decide +kernel
theorem dX9_note_31 : decode cX9_note 31 = .ok (.getfield 27, 3) := by decide +kernel
theorem dX9_note_34 : decode cX9_note 34 = .ok (.aload_n 0, 1) := by decide +kernel
theorem dX9_note_35 : decode cX9_note 35 = .ok (.getfield 49, 3) := by decide +kernel
theorem dX9_note_38 : decode cX9_note 38 = .ok (.iload 4, 2) := by decide +kernel
theorem dX9_note_40 : decode cX9_note 40 = .ok (.iastore, 1) := by decide +kernel
theorem dX9_note_41 : decode cX9_note 41 = .ok (.aload_n 0, 1) := by decide +kernel
theorem dX9_note_42 : decode cX9_note 42 = .ok (.dup, 1) := by decide +kernel
theorem dX9_note_43 : decode cX9_note 43 = .ok (.getfield 49, 3) := by decide +kernel
theorem dX9_note_46 : decode cX9_note 46 = .ok (.iconst 1, 1) := by decide +kernel
theorem dX9_note_47 : decode cX9_note 47 = .ok (.iadd, 1) := by decide +kernel
theorem dX9_note_48 : decode cX9_note 48 = .ok (.putfield 49, 3) := by decide +kernel
theorem dX9_note_51 : decode cX9_note 51 = .ok (.return_, 1) := by decide +kernel
def f_X9_note (v1 : Int32) (v2 : Int32) (v3 : Int32) (v4 : Int32) (D : aD) : Option (aD) :=
  aGd (aIn (gI D 40 4) 12) (aLet (pI D 43 (gI D 40 4).toNatClampNeg v1) (fun D_2 => aGd (aIn (gI D_2 40 4) 12) (aLet (pI D_2 44 (gI D_2 40 4).toNatClampNeg v2) (fun D_4 => aGd (aIn (gI D_4 40 4) 12) (aLet (pI D_4 45 (gI D_4 40 4).toNatClampNeg v3) (fun D_6 => aGd (aIn (gI D_6 40 4) 12) (aLet (pI D_6 46 (gI D_6 40 4).toNatClampNeg v4) (fun D_8 => aLet (pI D_8 40 4 ((gI D_8 40 4) + 1)) (fun D_9 => some D_9)))))))))
set_option maxRecDepth 100000 in
set_option maxHeartbeats 800000 in
theorem c_X9_note {G : aG} (hG : gOK G) {shp : List aSh} (hS : aShp shp) {fr : Option Nat} {v1 : Int32} {v2 : Int32} {v3 : Int32} {v4 : Int32} {D : aD} {K : aD → Prop} (h : Ok (f_X9_note v1 v2 v3 v4 D) K) : AC G (aRm 1 0 0) M_X9_note [.ref 40, .int v1, .int v2, .int v3, .int v4] fr shp D (aQv shp K) := by
  unfold f_X9_note at h
  refine AC.of (al := [some (.ref 40), some (.int v1), some (.int v2), some (.int v3), some (.int v4)]) (r := 0) (by decide) (Nat.le_of_ble_eq_true rfl) rfl ?_
  refine aw_aload_n (n := 1) (i := 0) dX9_note_0 rfl rfl rfl ?_
  refine aw_getR (n := 4) (j := 5) (r := 43) hG.1 fl_RX9_18 (sF_40 hS) rfl dX9_note_1 rfl ?_
  refine aw_aload_n (n := 5) (i := 0) dX9_note_4 rfl rfl rfl ?_
  refine aw_getI (n := 8) (j := 4) hG.1 fl_RX9_49 (sF_40 hS) rfl dX9_note_5 rfl ?_
  refine aw_iload_n (n := 9) (i := 1) dX9_note_8 rfl rfl rfl ?_
  obtain ⟨g_1, h⟩ := Ok.gd h
  obtain ⟨D_2, e_D_2, h⟩ := Ok.let_ h
  refine aw_iastore (n := 10) hG.1 (sF_43 hS) (aIn_in g_1) e_D_2 dX9_note_9 rfl ?_
  refine aw_aload_n (n := 11) (i := 0) dX9_note_10 rfl rfl rfl ?_
  refine aw_getR (n := 14) (j := 6) (r := 44) hG.1 fl_RX9_21 (sF_40 hS) rfl dX9_note_11 rfl ?_
  refine aw_aload_n (n := 15) (i := 0) dX9_note_14 rfl rfl rfl ?_
  refine aw_getI (n := 18) (j := 4) hG.1 fl_RX9_49 (sF_40 hS) rfl dX9_note_15 rfl ?_
  refine aw_iload_n (n := 19) (i := 2) dX9_note_18 rfl rfl rfl ?_
  obtain ⟨g_3, h⟩ := Ok.gd h
  obtain ⟨D_4, e_D_4, h⟩ := Ok.let_ h
  refine aw_iastore (n := 20) hG.1 (sF_44 hS) (aIn_in g_3) e_D_4 dX9_note_19 rfl ?_
  refine aw_aload_n (n := 21) (i := 0) dX9_note_20 rfl rfl rfl ?_
  refine aw_getR (n := 24) (j := 7) (r := 45) hG.1 fl_RX9_24 (sF_40 hS) rfl dX9_note_21 rfl ?_
  refine aw_aload_n (n := 25) (i := 0) dX9_note_24 rfl rfl rfl ?_
  refine aw_getI (n := 28) (j := 4) hG.1 fl_RX9_49 (sF_40 hS) rfl dX9_note_25 rfl ?_
  refine aw_iload_n (n := 29) (i := 3) dX9_note_28 rfl rfl rfl ?_
  obtain ⟨g_5, h⟩ := Ok.gd h
  obtain ⟨D_6, e_D_6, h⟩ := Ok.let_ h
  refine aw_iastore (n := 30) hG.1 (sF_45 hS) (aIn_in g_5) e_D_6 dX9_note_29 rfl ?_
  refine aw_aload_n (n := 31) (i := 0) dX9_note_30 rfl rfl rfl ?_
  refine aw_getR (n := 34) (j := 8) (r := 46) hG.1 fl_RX9_27 (sF_40 hS) rfl dX9_note_31 rfl ?_
  refine aw_aload_n (n := 35) (i := 0) dX9_note_34 rfl rfl rfl ?_
  refine aw_getI (n := 38) (j := 4) hG.1 fl_RX9_49 (sF_40 hS) rfl dX9_note_35 rfl ?_
  refine aw_iload (n := 40) (i := 4) dX9_note_38 rfl rfl ?_
  obtain ⟨g_7, h⟩ := Ok.gd h
  obtain ⟨D_8, e_D_8, h⟩ := Ok.let_ h
  refine aw_iastore (n := 41) hG.1 (sF_46 hS) (aIn_in g_7) e_D_8 dX9_note_40 rfl ?_
  refine aw_aload_n (n := 42) (i := 0) dX9_note_41 rfl rfl rfl ?_
  refine aw_dup (n := 43) dX9_note_42 rfl rfl ?_
  refine aw_getI (n := 46) (j := 4) hG.1 fl_RX9_49 (sF_40 hS) rfl dX9_note_43 rfl ?_
  refine aw_iconst (n := 47) (v := 1) dX9_note_46 rfl (by decide) ?_
  refine aw_iadd (n := 48) dX9_note_47 rfl ?_
  obtain ⟨D_9, e_D_9, h⟩ := Ok.let_ h
  refine aw_putI (n := 51) (j := 4) hG.1 fl_RX9_49 (sF_40 hS) rfl e_D_9 dX9_note_48 rfl ?_
  exact aw_vret rfl (by decide) (by decide) dX9_note_51 ⟨rfl, rfl, (Ok.dn h :)⟩
theorem dX9_copyFrom_0 : decode cX9_copyFrom 0 = .ok (.aload_n 0, 1) := by decide +kernel
theorem dX9_copyFrom_1 : decode cX9_copyFrom 1 = .ok (.aload_n 1, 1) := by decide +kernel
theorem dX9_copyFrom_2 : decode cX9_copyFrom 2 = .ok (.getfield 42, 3) := by decide +kernel
theorem dX9_copyFrom_5 : decode cX9_copyFrom 5 = .ok (.putfield 42, 3) := by decide +kernel
theorem dX9_copyFrom_8 : decode cX9_copyFrom 8 = .ok (.aload_n 0, 1) := by decide +kernel
theorem dX9_copyFrom_9 : decode cX9_copyFrom 9 = .ok (.aload_n 1, 1) := by decide +kernel
theorem dX9_copyFrom_10 : decode cX9_copyFrom 10 = .ok (.getfield 46, 3) := by decide +kernel
theorem dX9_copyFrom_13 : decode cX9_copyFrom 13 = .ok (.putfield 46, 3) := by decide +kernel
theorem dX9_copyFrom_16 : decode cX9_copyFrom 16 = .ok (.aload_n 0, 1) := by decide +kernel
theorem dX9_copyFrom_17 : decode cX9_copyFrom 17 = .ok (.aload_n 1, 1) := by decide +kernel
theorem dX9_copyFrom_18 : decode cX9_copyFrom 18 = .ok (.getfield 49, 3) := by decide +kernel
theorem dX9_copyFrom_21 : decode cX9_copyFrom 21 = .ok (.putfield 49, 3) := by decide +kernel
theorem dX9_copyFrom_24 : decode cX9_copyFrom 24 = .ok (.aload_n 1, 1) := by decide +kernel
theorem dX9_copyFrom_25 : decode cX9_copyFrom 25 = .ok (.getfield 9, 3) := by decide +kernel
theorem dX9_copyFrom_28 : decode cX9_copyFrom 28 = .ok (.iconst 0, 1) := by decide +kernel
theorem dX9_copyFrom_29 : decode cX9_copyFrom 29 = .ok (.aload_n 0, 1) := by decide +kernel
theorem dX9_copyFrom_30 : decode cX9_copyFrom 30 = .ok (.getfield 9, 3) := by decide +kernel
theorem dX9_copyFrom_33 : decode cX9_copyFrom 33 = .ok (.iconst 0, 1) := by decide +kernel
theorem dX9_copyFrom_34 : decode cX9_copyFrom 34 = .ok (.bipush 12, 2) := by decide +kernel
theorem dX9_copyFrom_36 : decode cX9_copyFrom 36 = .ok (.invokestatic 52, 3) := by decide +kernel
theorem dX9_copyFrom_39 : decode cX9_copyFrom 39 = .ok (.aload_n 1, 1) := by decide +kernel
theorem dX9_copyFrom_40 : decode cX9_copyFrom 40 = .ok (.getfield 15, 3) := by decide +kernel
theorem dX9_copyFrom_43 : decode cX9_copyFrom 43 = .ok (.iconst 0, 1) := by decide +kernel
theorem dX9_copyFrom_44 : decode cX9_copyFrom 44 = .ok (.aload_n 0, 1) := by decide +kernel
theorem dX9_copyFrom_45 : decode cX9_copyFrom 45 = .ok (.getfield 15, 3) := by decide +kernel
theorem dX9_copyFrom_48 : decode cX9_copyFrom 48 = .ok (.iconst 0, 1) := by decide +kernel
theorem dX9_copyFrom_49 : decode cX9_copyFrom 49 = .ok (.iconst 5, 1) := by decide +kernel
theorem dX9_copyFrom_50 : decode cX9_copyFrom 50 = .ok (.invokestatic 52, 3) := by decide +kernel
theorem dX9_copyFrom_53 : decode cX9_copyFrom 53 = .ok (.aload_n 1, 1) := by decide +kernel
theorem dX9_copyFrom_54 : decode cX9_copyFrom 54 = .ok (.getfield 18, 3) := by decide +kernel
theorem dX9_copyFrom_57 : decode cX9_copyFrom 57 = .ok (.iconst 0, 1) := by decide +kernel
theorem dX9_copyFrom_58 : decode cX9_copyFrom 58 = .ok (.aload_n 0, 1) := by decide +kernel
theorem dX9_copyFrom_59 : decode cX9_copyFrom 59 = .ok (.getfield 18, 3) := by decide +kernel
theorem dX9_copyFrom_62 : decode cX9_copyFrom 62 = .ok (.iconst 0, 1) := by decide +kernel
theorem dX9_copyFrom_63 : decode cX9_copyFrom 63 = .ok (.bipush 12, 2) := by decide +kernel
theorem dX9_copyFrom_65 : decode cX9_copyFrom 65 = .ok (.invokestatic 52, 3) := by decide +kernel
theorem dX9_copyFrom_68 : decode cX9_copyFrom 68 = .ok (.aload_n 1, 1) := by decide +kernel
theorem dX9_copyFrom_69 : decode cX9_copyFrom 69 = .ok (.getfield 21, 3) := by decide +kernel
theorem dX9_copyFrom_72 : decode cX9_copyFrom 72 = .ok (.iconst 0, 1) := by decide +kernel
theorem dX9_copyFrom_73 : decode cX9_copyFrom 73 = .ok (.aload_n 0, 1) := by decide +kernel
theorem dX9_copyFrom_74 : decode cX9_copyFrom 74 = .ok (.getfield 21, 3) := by decide +kernel
theorem dX9_copyFrom_77 : decode cX9_copyFrom 77 = .ok (.iconst 0, 1) := by decide +kernel
theorem dX9_copyFrom_78 : decode cX9_copyFrom 78 = .ok (.bipush 12, 2) := by decide +kernel
theorem dX9_copyFrom_80 : decode cX9_copyFrom 80 = .ok (.invokestatic 52, 3) := by decide +kernel
theorem dX9_copyFrom_83 : decode cX9_copyFrom 83 = .ok (.aload_n 1, 1) := by decide +kernel
theorem dX9_copyFrom_84 : decode cX9_copyFrom 84 = .ok (.getfield 24, 3) := by decide +kernel
theorem dX9_copyFrom_87 : decode cX9_copyFrom 87 = .ok (.iconst 0, 1) := by decide +kernel
theorem dX9_copyFrom_88 : decode cX9_copyFrom 88 = .ok (.aload_n 0, 1) := by decide +kernel
theorem dX9_copyFrom_89 : decode cX9_copyFrom 89 = .ok (.getfield 24, 3) := by decide +kernel
theorem dX9_copyFrom_92 : decode cX9_copyFrom 92 = .ok (.iconst 0, 1) := by decide +kernel
theorem dX9_copyFrom_93 : decode cX9_copyFrom 93 = .ok (.bipush 12, 2) := by decide +kernel
theorem dX9_copyFrom_95 : decode cX9_copyFrom 95 = .ok (.invokestatic 52, 3) := by decide +kernel
theorem dX9_copyFrom_98 : decode cX9_copyFrom 98 = .ok (.aload_n 1, 1) := by decide +kernel
theorem dX9_copyFrom_99 : decode cX9_copyFrom 99 = .ok (.getfield 27, 3) := by decide +kernel
theorem dX9_copyFrom_102 : decode cX9_copyFrom 102 = .ok (.iconst 0, 1) := by decide +kernel
theorem dX9_copyFrom_103 : decode cX9_copyFrom 103 = .ok (.aload_n 0, 1) := by decide +kernel
theorem dX9_copyFrom_104 : decode cX9_copyFrom 104 = .ok (.getfield 27, 3) := by decide +kernel
theorem dX9_copyFrom_107 : decode cX9_copyFrom 107 = .ok (.iconst 0, 1) := by decide +kernel
theorem dX9_copyFrom_108 : decode cX9_copyFrom 108 = .ok (.bipush 12, 2) := by decide +kernel
theorem dX9_copyFrom_110 : decode cX9_copyFrom 110 = .ok (.invokestatic 52, 3) := by decide +kernel
theorem dX9_copyFrom_113 : decode cX9_copyFrom 113 = .ok (.aload_n 1, 1) := by decide +kernel
theorem dX9_copyFrom_114 : decode cX9_copyFrom 114 = .ok (.getfield 30, 3) := by decide +kernel
theorem dX9_copyFrom_117 : decode cX9_copyFrom 117 = .ok (.iconst 0, 1) := by decide +kernel
theorem dX9_copyFrom_118 : decode cX9_copyFrom 118 = .ok (.aload_n 0, 1) := by decide +kernel
theorem dX9_copyFrom_119 : decode cX9_copyFrom 119 = .ok (.getfield 30, 3) := by decide +kernel
theorem dX9_copyFrom_122 : decode cX9_copyFrom 122 = .ok (.iconst 0, 1) := by decide +kernel
theorem dX9_copyFrom_123 : decode cX9_copyFrom 123 = .ok (.iconst 3, 1) := by decide +kernel
theorem dX9_copyFrom_124 : decode cX9_copyFrom 124 = .ok (.invokestatic 52, 3) := by decide +kernel
theorem dX9_copyFrom_127 : decode cX9_copyFrom 127 = .ok (.return_, 1) := by decide +kernel
def f_X9_copyFrom_48_40 (D : aD) : Option (aD) :=
  aLet (pI D 48 2 (gI D 40 2)) (fun D_1 => aLet (pI D_1 48 3 (gI D_1 40 3)) (fun D_2 => aLet (pI D_2 48 4 (gI D_2 40 4)) (fun D_3 => aGd (aCg 0 0 12 12 12) (aLet (aCp D_3 41 49 0 0 12) (fun D_5 => aGd (aCg 0 0 5 5 5) (aLet (aCp D_5 42 50 0 0 5) (fun D_7 => aGd (aCg 0 0 12 12 12) (aLet (aCp D_7 43 51 0 0 12) (fun D_9 => aGd (aCg 0 0 12 12 12) (aLet (aCp D_9 44 52 0 0 12) (fun D_11 => aGd (aCg 0 0 12 12 12) (aLet (aCp D_11 45 53 0 0 12) (fun D_13 => aGd (aCg 0 0 12 12 12) (aLet (aCp D_13 46 54 0 0 12) (fun D_15 => aGd (aCg 0 0 3 3 3) (aLet (aCp D_15 47 55 0 0 3) (fun D_17 => some D_17)))))))))))))))))
set_option maxRecDepth 100000 in
set_option maxHeartbeats 800000 in
theorem c_X9_copyFrom_48_40 {G : aG} (hG : gOK G) {shp : List aSh} (hS : aShp shp) {fr : Option Nat} {D : aD} {K : aD → Prop} (h : Ok (f_X9_copyFrom_48_40 D) K) : AC G (aRm 1 0 0) M_X9_copyFrom [.ref 48, .ref 40] fr shp D (aQv shp K) := by
  unfold f_X9_copyFrom_48_40 at h
  refine AC.of (al := [some (.ref 48), some (.ref 40)]) (r := 0) (by decide) (Nat.le_of_ble_eq_true rfl) rfl ?_
  refine aw_aload_n (n := 1) (i := 0) dX9_copyFrom_0 rfl rfl rfl ?_
  refine aw_aload_n (n := 2) (i := 1) dX9_copyFrom_1 rfl rfl rfl ?_
  refine aw_getI (n := 5) (j := 2) hG.1 fl_RX9_42 (sF_40 hS) rfl dX9_copyFrom_2 rfl ?_
  obtain ⟨D_1, e_D_1, h⟩ := Ok.let_ h
  refine aw_putI (n := 8) (j := 2) hG.1 fl_RX9_42 (sF_48 hS) rfl e_D_1 dX9_copyFrom_5 rfl ?_
  refine aw_aload_n (n := 9) (i := 0) dX9_copyFrom_8 rfl rfl rfl ?_
  refine aw_aload_n (n := 10) (i := 1) dX9_copyFrom_9 rfl rfl rfl ?_
  refine aw_getI (n := 13) (j := 3) hG.1 fl_RX9_46 (sF_40 hS) rfl dX9_copyFrom_10 rfl ?_
  obtain ⟨D_2, e_D_2, h⟩ := Ok.let_ h
  refine aw_putI (n := 16) (j := 3) hG.1 fl_RX9_46 (sF_48 hS) rfl e_D_2 dX9_copyFrom_13 rfl ?_
  refine aw_aload_n (n := 17) (i := 0) dX9_copyFrom_16 rfl rfl rfl ?_
  refine aw_aload_n (n := 18) (i := 1) dX9_copyFrom_17 rfl rfl rfl ?_
  refine aw_getI (n := 21) (j := 4) hG.1 fl_RX9_49 (sF_40 hS) rfl dX9_copyFrom_18 rfl ?_
  obtain ⟨D_3, e_D_3, h⟩ := Ok.let_ h
  refine aw_putI (n := 24) (j := 4) hG.1 fl_RX9_49 (sF_48 hS) rfl e_D_3 dX9_copyFrom_21 rfl ?_
  refine aw_aload_n (n := 25) (i := 1) dX9_copyFrom_24 rfl rfl rfl ?_
  refine aw_getR (n := 28) (j := 0) (r := 41) hG.1 fl_RX9_9 (sF_40 hS) rfl dX9_copyFrom_25 rfl ?_
  refine aw_iconst (n := 29) (v := 0) dX9_copyFrom_28 rfl (by decide) ?_
  refine aw_aload_n (n := 30) (i := 0) dX9_copyFrom_29 rfl rfl rfl ?_
  refine aw_getR (n := 33) (j := 0) (r := 49) hG.1 fl_RX9_9 (sF_48 hS) rfl dX9_copyFrom_30 rfl ?_
  refine aw_iconst (n := 34) (v := 0) dX9_copyFrom_33 rfl (by decide) ?_
  refine aw_bipush (n := 36) (v := 12) dX9_copyFrom_34 rfl (by decide) ?_
  obtain ⟨g_4, h⟩ := Ok.gd h
  obtain ⟨D_5, e_D_5, h⟩ := Ok.let_ h
  refine aw_copy (M := M_X9_copyFrom) (n := 39) hG.1 la_RX9_52 ma_copy.1 ma_copy.2.1 ma_copy.2.2 (sF_41 hS) (sF_49 hS) (aCg_ok g_4).1 (aCg_ok g_4).2.1 (aCg_ok g_4).2.2.1 (aCg_ok g_4).2.2.2.1 (aCg_ok g_4).2.2.2.2 e_D_5 (by decide) (Nat.le_of_ble_eq_true rfl) dX9_copyFrom_36 rfl ?_
  refine aw_aload_n (n := 40) (i := 1) dX9_copyFrom_39 rfl rfl rfl ?_
  refine aw_getR (n := 43) (j := 1) (r := 42) hG.1 fl_RX9_15 (sF_40 hS) rfl dX9_copyFrom_40 rfl ?_
  refine aw_iconst (n := 44) (v := 0) dX9_copyFrom_43 rfl (by decide) ?_
  refine aw_aload_n (n := 45) (i := 0) dX9_copyFrom_44 rfl rfl rfl ?_
  refine aw_getR (n := 48) (j := 1) (r := 50) hG.1 fl_RX9_15 (sF_48 hS) rfl dX9_copyFrom_45 rfl ?_
  refine aw_iconst (n := 49) (v := 0) dX9_copyFrom_48 rfl (by decide) ?_
  refine aw_iconst (n := 50) (v := 5) dX9_copyFrom_49 rfl (by decide) ?_
  obtain ⟨g_6, h⟩ := Ok.gd h
  obtain ⟨D_7, e_D_7, h⟩ := Ok.let_ h
  refine aw_copy (M := M_X9_copyFrom) (n := 53) hG.1 la_RX9_52 ma_copy.1 ma_copy.2.1 ma_copy.2.2 (sF_42 hS) (sF_50 hS) (aCg_ok g_6).1 (aCg_ok g_6).2.1 (aCg_ok g_6).2.2.1 (aCg_ok g_6).2.2.2.1 (aCg_ok g_6).2.2.2.2 e_D_7 (by decide) (Nat.le_of_ble_eq_true rfl) dX9_copyFrom_50 rfl ?_
  refine aw_aload_n (n := 54) (i := 1) dX9_copyFrom_53 rfl rfl rfl ?_
  refine aw_getR (n := 57) (j := 5) (r := 43) hG.1 fl_RX9_18 (sF_40 hS) rfl dX9_copyFrom_54 rfl ?_
  refine aw_iconst (n := 58) (v := 0) dX9_copyFrom_57 rfl (by decide) ?_
  refine aw_aload_n (n := 59) (i := 0) dX9_copyFrom_58 rfl rfl rfl ?_
  refine aw_getR (n := 62) (j := 5) (r := 51) hG.1 fl_RX9_18 (sF_48 hS) rfl dX9_copyFrom_59 rfl ?_
  refine aw_iconst (n := 63) (v := 0) dX9_copyFrom_62 rfl (by decide) ?_
  refine aw_bipush (n := 65) (v := 12) dX9_copyFrom_63 rfl (by decide) ?_
  obtain ⟨g_8, h⟩ := Ok.gd h
  obtain ⟨D_9, e_D_9, h⟩ := Ok.let_ h
  refine aw_copy (M := M_X9_copyFrom) (n := 68) hG.1 la_RX9_52 ma_copy.1 ma_copy.2.1 ma_copy.2.2 (sF_43 hS) (sF_51 hS) (aCg_ok g_8).1 (aCg_ok g_8).2.1 (aCg_ok g_8).2.2.1 (aCg_ok g_8).2.2.2.1 (aCg_ok g_8).2.2.2.2 e_D_9 (by decide) (Nat.le_of_ble_eq_true rfl) dX9_copyFrom_65 rfl ?_
  refine aw_aload_n (n := 69) (i := 1) dX9_copyFrom_68 rfl rfl rfl ?_
  refine aw_getR (n := 72) (j := 6) (r := 44) hG.1 fl_RX9_21 (sF_40 hS) rfl dX9_copyFrom_69 rfl ?_
  refine aw_iconst (n := 73) (v := 0) dX9_copyFrom_72 rfl (by decide) ?_
  refine aw_aload_n (n := 74) (i := 0) dX9_copyFrom_73 rfl rfl rfl ?_
  refine aw_getR (n := 77) (j := 6) (r := 52) hG.1 fl_RX9_21 (sF_48 hS) rfl dX9_copyFrom_74 rfl ?_
  refine aw_iconst (n := 78) (v := 0) dX9_copyFrom_77 rfl (by decide) ?_
  refine aw_bipush (n := 80) (v := 12) dX9_copyFrom_78 rfl (by decide) ?_
  obtain ⟨g_10, h⟩ := Ok.gd h
  obtain ⟨D_11, e_D_11, h⟩ := Ok.let_ h
  refine aw_copy (M := M_X9_copyFrom) (n := 83) hG.1 la_RX9_52 ma_copy.1 ma_copy.2.1 ma_copy.2.2 (sF_44 hS) (sF_52 hS) (aCg_ok g_10).1 (aCg_ok g_10).2.1 (aCg_ok g_10).2.2.1 (aCg_ok g_10).2.2.2.1 (aCg_ok g_10).2.2.2.2 e_D_11 (by decide) (Nat.le_of_ble_eq_true rfl) dX9_copyFrom_80 rfl ?_
  refine aw_aload_n (n := 84) (i := 1) dX9_copyFrom_83 rfl rfl rfl ?_
  refine aw_getR (n := 87) (j := 7) (r := 45) hG.1 fl_RX9_24 (sF_40 hS) rfl dX9_copyFrom_84 rfl ?_
  refine aw_iconst (n := 88) (v := 0) dX9_copyFrom_87 rfl (by decide) ?_
  refine aw_aload_n (n := 89) (i := 0) dX9_copyFrom_88 rfl rfl rfl ?_
  refine aw_getR (n := 92) (j := 7) (r := 53) hG.1 fl_RX9_24 (sF_48 hS) rfl dX9_copyFrom_89 rfl ?_
  refine aw_iconst (n := 93) (v := 0) dX9_copyFrom_92 rfl (by decide) ?_
  refine aw_bipush (n := 95) (v := 12) dX9_copyFrom_93 rfl (by decide) ?_
  obtain ⟨g_12, h⟩ := Ok.gd h
  obtain ⟨D_13, e_D_13, h⟩ := Ok.let_ h
  refine aw_copy (M := M_X9_copyFrom) (n := 98) hG.1 la_RX9_52 ma_copy.1 ma_copy.2.1 ma_copy.2.2 (sF_45 hS) (sF_53 hS) (aCg_ok g_12).1 (aCg_ok g_12).2.1 (aCg_ok g_12).2.2.1 (aCg_ok g_12).2.2.2.1 (aCg_ok g_12).2.2.2.2 e_D_13 (by decide) (Nat.le_of_ble_eq_true rfl) dX9_copyFrom_95 rfl ?_
  refine aw_aload_n (n := 99) (i := 1) dX9_copyFrom_98 rfl rfl rfl ?_
  refine aw_getR (n := 102) (j := 8) (r := 46) hG.1 fl_RX9_27 (sF_40 hS) rfl dX9_copyFrom_99 rfl ?_
  refine aw_iconst (n := 103) (v := 0) dX9_copyFrom_102 rfl (by decide) ?_
  refine aw_aload_n (n := 104) (i := 0) dX9_copyFrom_103 rfl rfl rfl ?_
  refine aw_getR (n := 107) (j := 8) (r := 54) hG.1 fl_RX9_27 (sF_48 hS) rfl dX9_copyFrom_104 rfl ?_
  refine aw_iconst (n := 108) (v := 0) dX9_copyFrom_107 rfl (by decide) ?_
  refine aw_bipush (n := 110) (v := 12) dX9_copyFrom_108 rfl (by decide) ?_
  obtain ⟨g_14, h⟩ := Ok.gd h
  obtain ⟨D_15, e_D_15, h⟩ := Ok.let_ h
  refine aw_copy (M := M_X9_copyFrom) (n := 113) hG.1 la_RX9_52 ma_copy.1 ma_copy.2.1 ma_copy.2.2 (sF_46 hS) (sF_54 hS) (aCg_ok g_14).1 (aCg_ok g_14).2.1 (aCg_ok g_14).2.2.1 (aCg_ok g_14).2.2.2.1 (aCg_ok g_14).2.2.2.2 e_D_15 (by decide) (Nat.le_of_ble_eq_true rfl) dX9_copyFrom_110 rfl ?_
  refine aw_aload_n (n := 114) (i := 1) dX9_copyFrom_113 rfl rfl rfl ?_
  refine aw_getR (n := 117) (j := 9) (r := 47) hG.1 fl_RX9_30 (sF_40 hS) rfl dX9_copyFrom_114 rfl ?_
  refine aw_iconst (n := 118) (v := 0) dX9_copyFrom_117 rfl (by decide) ?_
  refine aw_aload_n (n := 119) (i := 0) dX9_copyFrom_118 rfl rfl rfl ?_
  refine aw_getR (n := 122) (j := 9) (r := 55) hG.1 fl_RX9_30 (sF_48 hS) rfl dX9_copyFrom_119 rfl ?_
  refine aw_iconst (n := 123) (v := 0) dX9_copyFrom_122 rfl (by decide) ?_
  refine aw_iconst (n := 124) (v := 3) dX9_copyFrom_123 rfl (by decide) ?_
  obtain ⟨g_16, h⟩ := Ok.gd h
  obtain ⟨D_17, e_D_17, h⟩ := Ok.let_ h
  refine aw_copy (M := M_X9_copyFrom) (n := 127) hG.1 la_RX9_52 ma_copy.1 ma_copy.2.1 ma_copy.2.2 (sF_47 hS) (sF_55 hS) (aCg_ok g_16).1 (aCg_ok g_16).2.1 (aCg_ok g_16).2.2.1 (aCg_ok g_16).2.2.2.1 (aCg_ok g_16).2.2.2.2 e_D_17 (by decide) (Nat.le_of_ble_eq_true rfl) dX9_copyFrom_124 rfl ?_
  exact aw_vret rfl (by decide) (by decide) dX9_copyFrom_127 ⟨rfl, rfl, (Ok.dn h :)⟩
def f_X9_copyFrom_40_48 (D : aD) : Option (aD) :=
  aLet (pI D 40 2 (gI D 48 2)) (fun D_1 => aLet (pI D_1 40 3 (gI D_1 48 3)) (fun D_2 => aLet (pI D_2 40 4 (gI D_2 48 4)) (fun D_3 => aGd (aCg 0 0 12 12 12) (aLet (aCp D_3 49 41 0 0 12) (fun D_5 => aGd (aCg 0 0 5 5 5) (aLet (aCp D_5 50 42 0 0 5) (fun D_7 => aGd (aCg 0 0 12 12 12) (aLet (aCp D_7 51 43 0 0 12) (fun D_9 => aGd (aCg 0 0 12 12 12) (aLet (aCp D_9 52 44 0 0 12) (fun D_11 => aGd (aCg 0 0 12 12 12) (aLet (aCp D_11 53 45 0 0 12) (fun D_13 => aGd (aCg 0 0 12 12 12) (aLet (aCp D_13 54 46 0 0 12) (fun D_15 => aGd (aCg 0 0 3 3 3) (aLet (aCp D_15 55 47 0 0 3) (fun D_17 => some D_17)))))))))))))))))
set_option maxRecDepth 100000 in
set_option maxHeartbeats 800000 in
theorem c_X9_copyFrom_40_48 {G : aG} (hG : gOK G) {shp : List aSh} (hS : aShp shp) {fr : Option Nat} {D : aD} {K : aD → Prop} (h : Ok (f_X9_copyFrom_40_48 D) K) : AC G (aRm 1 0 0) M_X9_copyFrom [.ref 40, .ref 48] fr shp D (aQv shp K) := by
  unfold f_X9_copyFrom_40_48 at h
  refine AC.of (al := [some (.ref 40), some (.ref 48)]) (r := 0) (by decide) (Nat.le_of_ble_eq_true rfl) rfl ?_
  refine aw_aload_n (n := 1) (i := 0) dX9_copyFrom_0 rfl rfl rfl ?_
  refine aw_aload_n (n := 2) (i := 1) dX9_copyFrom_1 rfl rfl rfl ?_
  refine aw_getI (n := 5) (j := 2) hG.1 fl_RX9_42 (sF_48 hS) rfl dX9_copyFrom_2 rfl ?_
  obtain ⟨D_1, e_D_1, h⟩ := Ok.let_ h
  refine aw_putI (n := 8) (j := 2) hG.1 fl_RX9_42 (sF_40 hS) rfl e_D_1 dX9_copyFrom_5 rfl ?_
  refine aw_aload_n (n := 9) (i := 0) dX9_copyFrom_8 rfl rfl rfl ?_
  refine aw_aload_n (n := 10) (i := 1) dX9_copyFrom_9 rfl rfl rfl ?_
  refine aw_getI (n := 13) (j := 3) hG.1 fl_RX9_46 (sF_48 hS) rfl dX9_copyFrom_10 rfl ?_
  obtain ⟨D_2, e_D_2, h⟩ := Ok.let_ h
  refine aw_putI (n := 16) (j := 3) hG.1 fl_RX9_46 (sF_40 hS) rfl e_D_2 dX9_copyFrom_13 rfl ?_
  refine aw_aload_n (n := 17) (i := 0) dX9_copyFrom_16 rfl rfl rfl ?_
  refine aw_aload_n (n := 18) (i := 1) dX9_copyFrom_17 rfl rfl rfl ?_
  refine aw_getI (n := 21) (j := 4) hG.1 fl_RX9_49 (sF_48 hS) rfl dX9_copyFrom_18 rfl ?_
  obtain ⟨D_3, e_D_3, h⟩ := Ok.let_ h
  refine aw_putI (n := 24) (j := 4) hG.1 fl_RX9_49 (sF_40 hS) rfl e_D_3 dX9_copyFrom_21 rfl ?_
  refine aw_aload_n (n := 25) (i := 1) dX9_copyFrom_24 rfl rfl rfl ?_
  refine aw_getR (n := 28) (j := 0) (r := 49) hG.1 fl_RX9_9 (sF_48 hS) rfl dX9_copyFrom_25 rfl ?_
  refine aw_iconst (n := 29) (v := 0) dX9_copyFrom_28 rfl (by decide) ?_
  refine aw_aload_n (n := 30) (i := 0) dX9_copyFrom_29 rfl rfl rfl ?_
  refine aw_getR (n := 33) (j := 0) (r := 41) hG.1 fl_RX9_9 (sF_40 hS) rfl dX9_copyFrom_30 rfl ?_
  refine aw_iconst (n := 34) (v := 0) dX9_copyFrom_33 rfl (by decide) ?_
  refine aw_bipush (n := 36) (v := 12) dX9_copyFrom_34 rfl (by decide) ?_
  obtain ⟨g_4, h⟩ := Ok.gd h
  obtain ⟨D_5, e_D_5, h⟩ := Ok.let_ h
  refine aw_copy (M := M_X9_copyFrom) (n := 39) hG.1 la_RX9_52 ma_copy.1 ma_copy.2.1 ma_copy.2.2 (sF_49 hS) (sF_41 hS) (aCg_ok g_4).1 (aCg_ok g_4).2.1 (aCg_ok g_4).2.2.1 (aCg_ok g_4).2.2.2.1 (aCg_ok g_4).2.2.2.2 e_D_5 (by decide) (Nat.le_of_ble_eq_true rfl) dX9_copyFrom_36 rfl ?_
  refine aw_aload_n (n := 40) (i := 1) dX9_copyFrom_39 rfl rfl rfl ?_
  refine aw_getR (n := 43) (j := 1) (r := 50) hG.1 fl_RX9_15 (sF_48 hS) rfl dX9_copyFrom_40 rfl ?_
  refine aw_iconst (n := 44) (v := 0) dX9_copyFrom_43 rfl (by decide) ?_
  refine aw_aload_n (n := 45) (i := 0) dX9_copyFrom_44 rfl rfl rfl ?_
  refine aw_getR (n := 48) (j := 1) (r := 42) hG.1 fl_RX9_15 (sF_40 hS) rfl dX9_copyFrom_45 rfl ?_
  refine aw_iconst (n := 49) (v := 0) dX9_copyFrom_48 rfl (by decide) ?_
  refine aw_iconst (n := 50) (v := 5) dX9_copyFrom_49 rfl (by decide) ?_
  obtain ⟨g_6, h⟩ := Ok.gd h
  obtain ⟨D_7, e_D_7, h⟩ := Ok.let_ h
  refine aw_copy (M := M_X9_copyFrom) (n := 53) hG.1 la_RX9_52 ma_copy.1 ma_copy.2.1 ma_copy.2.2 (sF_50 hS) (sF_42 hS) (aCg_ok g_6).1 (aCg_ok g_6).2.1 (aCg_ok g_6).2.2.1 (aCg_ok g_6).2.2.2.1 (aCg_ok g_6).2.2.2.2 e_D_7 (by decide) (Nat.le_of_ble_eq_true rfl) dX9_copyFrom_50 rfl ?_
  refine aw_aload_n (n := 54) (i := 1) dX9_copyFrom_53 rfl rfl rfl ?_
  refine aw_getR (n := 57) (j := 5) (r := 51) hG.1 fl_RX9_18 (sF_48 hS) rfl dX9_copyFrom_54 rfl ?_
  refine aw_iconst (n := 58) (v := 0) dX9_copyFrom_57 rfl (by decide) ?_
  refine aw_aload_n (n := 59) (i := 0) dX9_copyFrom_58 rfl rfl rfl ?_
  refine aw_getR (n := 62) (j := 5) (r := 43) hG.1 fl_RX9_18 (sF_40 hS) rfl dX9_copyFrom_59 rfl ?_
  refine aw_iconst (n := 63) (v := 0) dX9_copyFrom_62 rfl (by decide) ?_
  refine aw_bipush (n := 65) (v := 12) dX9_copyFrom_63 rfl (by decide) ?_
  obtain ⟨g_8, h⟩ := Ok.gd h
  obtain ⟨D_9, e_D_9, h⟩ := Ok.let_ h
  refine aw_copy (M := M_X9_copyFrom) (n := 68) hG.1 la_RX9_52 ma_copy.1 ma_copy.2.1 ma_copy.2.2 (sF_51 hS) (sF_43 hS) (aCg_ok g_8).1 (aCg_ok g_8).2.1 (aCg_ok g_8).2.2.1 (aCg_ok g_8).2.2.2.1 (aCg_ok g_8).2.2.2.2 e_D_9 (by decide) (Nat.le_of_ble_eq_true rfl) dX9_copyFrom_65 rfl ?_
  refine aw_aload_n (n := 69) (i := 1) dX9_copyFrom_68 rfl rfl rfl ?_
  refine aw_getR (n := 72) (j := 6) (r := 52) hG.1 fl_RX9_21 (sF_48 hS) rfl dX9_copyFrom_69 rfl ?_
  refine aw_iconst (n := 73) (v := 0) dX9_copyFrom_72 rfl (by decide) ?_
  refine aw_aload_n (n := 74) (i := 0) dX9_copyFrom_73 rfl rfl rfl ?_
  refine aw_getR (n := 77) (j := 6) (r := 44) hG.1 fl_RX9_21 (sF_40 hS) rfl dX9_copyFrom_74 rfl ?_
  refine aw_iconst (n := 78) (v := 0) dX9_copyFrom_77 rfl (by decide) ?_
  refine aw_bipush (n := 80) (v := 12) dX9_copyFrom_78 rfl (by decide) ?_
  obtain ⟨g_10, h⟩ := Ok.gd h
  obtain ⟨D_11, e_D_11, h⟩ := Ok.let_ h
  refine aw_copy (M := M_X9_copyFrom) (n := 83) hG.1 la_RX9_52 ma_copy.1 ma_copy.2.1 ma_copy.2.2 (sF_52 hS) (sF_44 hS) (aCg_ok g_10).1 (aCg_ok g_10).2.1 (aCg_ok g_10).2.2.1 (aCg_ok g_10).2.2.2.1 (aCg_ok g_10).2.2.2.2 e_D_11 (by decide) (Nat.le_of_ble_eq_true rfl) dX9_copyFrom_80 rfl ?_
  refine aw_aload_n (n := 84) (i := 1) dX9_copyFrom_83 rfl rfl rfl ?_
  refine aw_getR (n := 87) (j := 7) (r := 53) hG.1 fl_RX9_24 (sF_48 hS) rfl dX9_copyFrom_84 rfl ?_
  refine aw_iconst (n := 88) (v := 0) dX9_copyFrom_87 rfl (by decide) ?_
  refine aw_aload_n (n := 89) (i := 0) dX9_copyFrom_88 rfl rfl rfl ?_
  refine aw_getR (n := 92) (j := 7) (r := 45) hG.1 fl_RX9_24 (sF_40 hS) rfl dX9_copyFrom_89 rfl ?_
  refine aw_iconst (n := 93) (v := 0) dX9_copyFrom_92 rfl (by decide) ?_
  refine aw_bipush (n := 95) (v := 12) dX9_copyFrom_93 rfl (by decide) ?_
  obtain ⟨g_12, h⟩ := Ok.gd h
  obtain ⟨D_13, e_D_13, h⟩ := Ok.let_ h
  refine aw_copy (M := M_X9_copyFrom) (n := 98) hG.1 la_RX9_52 ma_copy.1 ma_copy.2.1 ma_copy.2.2 (sF_53 hS) (sF_45 hS) (aCg_ok g_12).1 (aCg_ok g_12).2.1 (aCg_ok g_12).2.2.1 (aCg_ok g_12).2.2.2.1 (aCg_ok g_12).2.2.2.2 e_D_13 (by decide) (Nat.le_of_ble_eq_true rfl) dX9_copyFrom_95 rfl ?_
  refine aw_aload_n (n := 99) (i := 1) dX9_copyFrom_98 rfl rfl rfl ?_
  refine aw_getR (n := 102) (j := 8) (r := 54) hG.1 fl_RX9_27 (sF_48 hS) rfl dX9_copyFrom_99 rfl ?_
  refine aw_iconst (n := 103) (v := 0) dX9_copyFrom_102 rfl (by decide) ?_
  refine aw_aload_n (n := 104) (i := 0) dX9_copyFrom_103 rfl rfl rfl ?_
  refine aw_getR (n := 107) (j := 8) (r := 46) hG.1 fl_RX9_27 (sF_40 hS) rfl dX9_copyFrom_104 rfl ?_
  refine aw_iconst (n := 108) (v := 0) dX9_copyFrom_107 rfl (by decide) ?_
  refine aw_bipush (n := 110) (v := 12) dX9_copyFrom_108 rfl (by decide) ?_
  obtain ⟨g_14, h⟩ := Ok.gd h
  obtain ⟨D_15, e_D_15, h⟩ := Ok.let_ h
  refine aw_copy (M := M_X9_copyFrom) (n := 113) hG.1 la_RX9_52 ma_copy.1 ma_copy.2.1 ma_copy.2.2 (sF_54 hS) (sF_46 hS) (aCg_ok g_14).1 (aCg_ok g_14).2.1 (aCg_ok g_14).2.2.1 (aCg_ok g_14).2.2.2.1 (aCg_ok g_14).2.2.2.2 e_D_15 (by decide) (Nat.le_of_ble_eq_true rfl) dX9_copyFrom_110 rfl ?_
  refine aw_aload_n (n := 114) (i := 1) dX9_copyFrom_113 rfl rfl rfl ?_
  refine aw_getR (n := 117) (j := 9) (r := 55) hG.1 fl_RX9_30 (sF_48 hS) rfl dX9_copyFrom_114 rfl ?_
  refine aw_iconst (n := 118) (v := 0) dX9_copyFrom_117 rfl (by decide) ?_
  refine aw_aload_n (n := 119) (i := 0) dX9_copyFrom_118 rfl rfl rfl ?_
  refine aw_getR (n := 122) (j := 9) (r := 47) hG.1 fl_RX9_30 (sF_40 hS) rfl dX9_copyFrom_119 rfl ?_
  refine aw_iconst (n := 123) (v := 0) dX9_copyFrom_122 rfl (by decide) ?_
  refine aw_iconst (n := 124) (v := 3) dX9_copyFrom_123 rfl (by decide) ?_
  obtain ⟨g_16, h⟩ := Ok.gd h
  obtain ⟨D_17, e_D_17, h⟩ := Ok.let_ h
  refine aw_copy (M := M_X9_copyFrom) (n := 127) hG.1 la_RX9_52 ma_copy.1 ma_copy.2.1 ma_copy.2.2 (sF_55 hS) (sF_47 hS) (aCg_ok g_16).1 (aCg_ok g_16).2.1 (aCg_ok g_16).2.2.1 (aCg_ok g_16).2.2.2.1 (aCg_ok g_16).2.2.2.2 e_D_17 (by decide) (Nat.le_of_ble_eq_true rfl) dX9_copyFrom_124 rfl ?_
  exact aw_vret rfl (by decide) (by decide) dX9_copyFrom_127 ⟨rfl, rfl, (Ok.dn h :)⟩
