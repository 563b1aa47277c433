theorem dX12_first_0 : decode cX12_first 0 = .ok (.iconst (-1), 1) := by decide +kernel
theorem dX12_first_1 : decode cX12_first 1 = .ok (.istore_n 2, 1) := by decide +kernel
theorem dX12_first_2 : decode cX12_first 2 = .ok (.iconst 0, 1) := by decide +kernel
theorem dX12_first_3 : decode cX12_first 3 = .ok (.istore_n 3, 1) := by decide +kernel
theorem dX12_first_4 : decode cX12_first 4 = .ok (.iload_n 3, 1) := by decide +kernel
theorem dX12_first_5 : decode cX12_first 5 = .ok (.aload_n 0, 1) := by decide +kernel
theorem dX12_first_6 : decode cX12_first 6 = .ok (.getfield 27, 3) := by decide +kernel
theorem dX12_first_9 : decode cX12_first 9 = .ok (.iconst 3, 1) := by decide +kernel
theorem dX12_first_10 : decode cX12_first 10 = .ok (.iaload, 1) := by decide +kernel
theorem dX12_first_11 : decode cX12_first 11 = .ok (.if_icmp .ge 36, 3) := by decide +kernel
theorem dX12_first_14 : decode cX12_first 14 = .ok (.iload_n 3, 1) := by decide +kernel
theorem dX12_first_15 : decode cX12_first 15 = .ok (.iload_n 1, 1) := by decide +kernel
theorem dX12_first_16 : decode cX12_first 16 = .ok (.if_icmp .eq 25, 3) := by decide +kernel
theorem dX12_first_19 : decode cX12_first 19 = .ok (.iload_n 2, 1) := by decide +kernel
theorem dX12_first_20 : decode cX12_first 20 = .ok (.iconst (-1), 1) := by decide +kernel
theorem dX12_first_21 : decode cX12_first 21 = .ok (.if_icmp .eq 18, 3) := by decide +kernel
theorem dX12_first_24 : decode cX12_first 24 = .ok (.aload_n 0, 1) := by decide +kernel
theorem dX12_first_25 : decode cX12_first 25 = .ok (.getfield 97, 3) := by decide +kernel
theorem dX12_first_28 : decode cX12_first 28 = .ok (.iload_n 3, 1) := by decide +kernel
theorem dX12_first_29 : decode cX12_first 29 = .ok (.iaload, 1) := by decide +kernel
theorem dX12_first_30 : decode cX12_first 30 = .ok (.aload_n 0, 1) := by decide +kernel
theorem dX12_first_31 : decode cX12_first 31 = .ok (.getfield 97, 3) := by decide +kernel
theorem dX12_first_34 : decode cX12_first 34 = .ok (.iload_n 2, 1) := by decide +kernel
theorem dX12_first_35 : decode cX12_first 35 = .ok (.iaload, 1) := by decide +kernel
theorem dX12_first_36 : decode cX12_first 36 = .ok (.if_icmp .le 5, 3) := by decide +kernel
theorem dX12_first_39 : decode cX12_first 39 = .ok (.iload_n 3, 1) := by decide +kernel
theorem dX12_first_40 : decode cX12_first 40 = .ok (.istore_n 2, 1) := by decide +kernel
theorem dX12_first_41 : decode cX12_first 41 = .ok (.iinc 3 1, 3) := by decide +kernel
theorem dX12_first_44 : decode cX12_first 44 = .ok (.goto (-40), 3) := by decide +kernel
theorem dX12_first_47 : decode cX12_first 47 = .ok (.iload_n 2, 1) := by decide +kernel
theorem dX12_first_48 : decode cX12_first 48 = .ok (.ireturn, 1) := by decide +kernel
def J_X12_first_47 (v2 : Int32) (D : aD) : Option (Int32 × aD) :=
  some (v2, D)
def B_X12_first_4 (v1 : Int32) (v2 : Int32) (v3 : Int32) (D : aD) : Option ((Int32 × Int32 × aD) ⊕ ((Int32 × aD))) :=
  aGd (aIn 3 32) (if gI D 91 (3 : Int32).toNatClampNeg ≤ v3 then (some (.inr (v2, D))) else (if v3 = v1 then (aLet (v3 + 1) (fun v3_2 => some (.inl (v2, v3_2, D)))) else (if v2 = (-1) then (aLet (v3 + 1) (fun v3_3 => some (.inl (v3, v3_3, D)))) else (aGd (aIn v3 5) (aGd (aIn v2 5) (if gI D 112 v3.toNatClampNeg ≤ gI D 112 v2.toNatClampNeg then (aLet (v3 + 1) (fun v3_6 => some (.inl (v2, v3_6, D)))) else (aLet (v3 + 1) (fun v3_7 => some (.inl (v3, v3_7, D))))))))))
def J_X12_first_4 (v1 : Int32) (v2 : Int32) (v3 : Int32) (D : aD) : Option (Int32 × aD) :=
  (aLp (fun s => B_X12_first_4 v1 s.1 s.2.1 s.2.2) (v2, v3, D)).bind (fun r => J_X12_first_47 (r.1) r.2)
def f_X12_first (v1 : Int32) (D : aD) : Option (Int32 × aD) :=
  J_X12_first_4 v1 (-1) 0 D
set_option maxRecDepth 100000 in
set_option maxHeartbeats 800000 in
theorem c_X12_first {G : aG} (hG : gOK G) {shp : List aSh} (hS : aShp shp) {fr : Option Nat} {v1 : Int32} {D : aD} {K : Int32 → aD → Prop} (h : Ok2 (f_X12_first v1 D) K) : AC G (aRm 1 0 0) M_X12_first [.ref 88, .int v1] fr shp D (aQi shp K) := by
  replace h := Ok2.ok h
  unfold f_X12_first at h
  refine AC.of (al := [some (.ref 88), some (.int v1), none, none]) (r := 2) (by decide) (Nat.le_of_ble_eq_true rfl) rfl ?_
  have hJ_47 : ∀ (v2 : Int32) (D : aD), Ok (J_X12_first_47 v2 D) (fun r => K r.1 r.2) → AW G (aRm 1 0 0) M_X12_first fr 0 0 47 [none, none, some (.int v2), none] [] shp D (aQi shp K) := by
    intro v2 D h
    unfold J_X12_first_47 at h
    refine aw_iload_n (n := 48) (i := 2) dX12_first_47 rfl rfl rfl ?_
    exact aw_iret rfl (by decide) (by decide) dX12_first_48 ⟨_, rfl, rfl, (Ok.dn h :)⟩
  have hJ_4 : ∀ (v1 : Int32) (v2 : Int32) (v3 : Int32) (D : aD), Ok (J_X12_first_4 v1 v2 v3 D) (fun r => K r.1 r.2) → AW G (aRm 1 0 0) M_X12_first fr 0 0 4 [some (.ref 88), some (.int v1), some (.int v2), some (.int v3)] [] shp D (aQi shp K) := by
    intro v1 v2 v3 D h
    unfold J_X12_first_4 at h
    refine Ok.lp (P := fun s => AW G (aRm 1 0 0) M_X12_first fr 0 0 4 [some (.ref 88), some (.int v1), some (.int (s.1)), some (.int (s.2.1))] [] shp s.2.2 (aQi shp K)) (fun s Kb4 hL4 hR4 h => ?_) (v2, v3, D) (Ok.bind h)
    obtain ⟨v2, v3, D⟩ := s
    replace h : Ok (B_X12_first_4 v1 v2 v3 D) Kb4 := h
    unfold B_X12_first_4 at h
    refine aw_iload_n (n := 5) (i := 3) dX12_first_4 rfl rfl rfl ?_
    refine aw_aload_n (n := 6) (i := 0) dX12_first_5 rfl rfl rfl ?_
    refine aw_getR (n := 9) (j := 3) (r := 91) hG.1 fl_RX12_27 (sF_88 hS) rfl dX12_first_6 rfl ?_
    refine aw_iconst (n := 10) (v := 3) dX12_first_9 rfl (by decide) ?_
    obtain ⟨g_1, h⟩ := Ok.gd h
    refine aw_iaload (n := 11) hG.1 (sF_91 hS) (aIn_in g_1) dX12_first_10 rfl ?_
    refine aw_icmp_ge (n := 14) (tgt := 47) dX12_first_11 rfl (by decide) (fun c => ?_) (fun c => ?_)
    · replace h := Ok.ift h c
      exact aw_le' (hJ_47 v2 D (hR4 (v2, D) (Ok.dn h :))) ⟨rfl, trivial⟩
    · replace h := Ok.iff h c
      refine aw_iload_n (n := 15) (i := 3) dX12_first_14 rfl rfl rfl ?_
      refine aw_iload_n (n := 16) (i := 1) dX12_first_15 rfl rfl rfl ?_
      refine aw_icmp_eq (n := 19) (tgt := 41) dX12_first_16 rfl (by decide) (fun c => ?_) (fun c => ?_)
      · replace h := Ok.ift h c
        obtain ⟨v3_2, e_v3_2, h⟩ := Ok.let_ h
        refine aw_iinc (n := 44) (al' := [some (.ref 88), some (.int v1), some (.int v2), some (.int v3_2)]) dX12_first_41 rfl rfl e_v3_2 (by decide) rfl ?_
        refine aw_goto (tgt := 4) dX12_first_44 (by decide) ?_
        exact aw_le' (hL4 (v2, v3_2, D) (Ok.dn h :)) ⟨rfl, ⟨rfl, ⟨rfl, ⟨rfl, trivial⟩⟩⟩⟩
      · replace h := Ok.iff h c
        refine aw_iload_n (n := 20) (i := 2) dX12_first_19 rfl rfl rfl ?_
        refine aw_iconst (n := 21) (v := (-1)) dX12_first_20 rfl (by decide) ?_
        refine aw_icmp_eq (n := 24) (tgt := 39) dX12_first_21 rfl (by decide) (fun c => ?_) (fun c => ?_)
        · replace h := Ok.ift h c
          refine aw_iload_n (n := 40) (i := 3) dX12_first_39 rfl rfl rfl ?_
          refine aw_istore_n (n := 41) (i := 2) (al' := [some (.ref 88), some (.int v1), some (.int v3), some (.int v3)]) dX12_first_40 rfl rfl rfl (by decide) rfl ?_
          obtain ⟨v3_3, e_v3_3, h⟩ := Ok.let_ h
          refine aw_iinc (n := 44) (al' := [some (.ref 88), some (.int v1), some (.int v3), some (.int v3_3)]) dX12_first_41 rfl rfl e_v3_3 (by decide) rfl ?_
          refine aw_goto (tgt := 4) dX12_first_44 (by decide) ?_
          exact aw_le' (hL4 (v3, v3_3, D) (Ok.dn h :)) ⟨rfl, ⟨rfl, ⟨rfl, ⟨rfl, trivial⟩⟩⟩⟩
        · replace h := Ok.iff h c
          refine aw_aload_n (n := 25) (i := 0) dX12_first_24 rfl rfl rfl ?_
          refine aw_getR (n := 28) (j := 38) (r := 112) hG.1 fl_RX12_97 (sF_88 hS) rfl dX12_first_25 rfl ?_
          refine aw_iload_n (n := 29) (i := 3) dX12_first_28 rfl rfl rfl ?_
          obtain ⟨g_4, h⟩ := Ok.gd h
          refine aw_iaload (n := 30) hG.1 (sF_112 hS) (aIn_in g_4) dX12_first_29 rfl ?_
          refine aw_aload_n (n := 31) (i := 0) dX12_first_30 rfl rfl rfl ?_
          refine aw_getR (n := 34) (j := 38) (r := 112) hG.1 fl_RX12_97 (sF_88 hS) rfl dX12_first_31 rfl ?_
          refine aw_iload_n (n := 35) (i := 2) dX12_first_34 rfl rfl rfl ?_
          obtain ⟨g_5, h⟩ := Ok.gd h
          refine aw_iaload (n := 36) hG.1 (sF_112 hS) (aIn_in g_5) dX12_first_35 rfl ?_
          refine aw_icmp_le (n := 39) (tgt := 41) dX12_first_36 rfl (by decide) (fun c => ?_) (fun c => ?_)
          · replace h := Ok.ift h c
            obtain ⟨v3_6, e_v3_6, h⟩ := Ok.let_ h
            refine aw_iinc (n := 44) (al' := [some (.ref 88), some (.int v1), some (.int v2), some (.int v3_6)]) dX12_first_41 rfl rfl e_v3_6 (by decide) rfl ?_
            refine aw_goto (tgt := 4) dX12_first_44 (by decide) ?_
            exact aw_le' (hL4 (v2, v3_6, D) (Ok.dn h :)) ⟨rfl, ⟨rfl, ⟨rfl, ⟨rfl, trivial⟩⟩⟩⟩
          · replace h := Ok.iff h c
            refine aw_iload_n (n := 40) (i := 3) dX12_first_39 rfl rfl rfl ?_
            refine aw_istore_n (n := 41) (i := 2) (al' := [some (.ref 88), some (.int v1), some (.int v3), some (.int v3)]) dX12_first_40 rfl rfl rfl (by decide) rfl ?_
            obtain ⟨v3_7, e_v3_7, h⟩ := Ok.let_ h
            refine aw_iinc (n := 44) (al' := [some (.ref 88), some (.int v1), some (.int v3), some (.int v3_7)]) dX12_first_41 rfl rfl e_v3_7 (by decide) rfl ?_
            refine aw_goto (tgt := 4) dX12_first_44 (by decide) ?_
            exact aw_le' (hL4 (v3, v3_7, D) (Ok.dn h :)) ⟨rfl, ⟨rfl, ⟨rfl, ⟨rfl, trivial⟩⟩⟩⟩
  refine aw_iconst (n := 1) (v := (-1)) dX12_first_0 rfl (by decide) ?_
  refine aw_istore_n (n := 2) (i := 2) (al' := [some (.ref 88), some (.int v1), some (.int (-1)), none]) dX12_first_1 rfl rfl rfl (by decide) rfl ?_
  refine aw_iconst (n := 3) (v := 0) dX12_first_2 rfl (by decide) ?_
  refine aw_istore_n (n := 4) (i := 3) (al' := [some (.ref 88), some (.int v1), some (.int (-1)), some (.int 0)]) dX12_first_3 rfl rfl rfl (by decide) rfl ?_
  exact aw_le' (hJ_4 v1 (-1) 0 D h) ⟨rfl, ⟨rfl, ⟨rfl, ⟨rfl, trivial⟩⟩⟩⟩
theorem dX12_winnerBy_0 : decode cX12_winnerBy 0 = .ok (.aload_n 0, 1) := by decide +kernel
theorem dX12_winnerBy_1 : decode cX12_winnerBy 1 = .ok (.aload_n 0, 1) := by decide +kernel
theorem dX12_winnerBy_2 : decode cX12_winnerBy 2 = .ok (.getfield 79, 3) := by decide +kernel
theorem dX12_winnerBy_5 : decode cX12_winnerBy 5 = .ok (.iload_n 1, 1) := by decide +kernel
theorem dX12_winnerBy_6 : decode cX12_winnerBy 6 = .ok (.invokevirtual 349, 3) := by decide +kernel
theorem dX12_winnerBy_9 : decode cX12_winnerBy 9 = .ok (.aload_n 0, 1) := by decide +kernel
theorem dX12_winnerBy_10 : decode cX12_winnerBy 10 = .ok (.iconst (-1), 1) := by decide +kernel
theorem dX12_winnerBy_11 : decode cX12_winnerBy 11 = .ok (.invokevirtual 353, 3) := by decide +kernel
theorem dX12_winnerBy_14 : decode cX12_winnerBy 14 = .ok (.ireturn, 1) := by decide +kernel
def f_X12_winnerBy (v1 : Int32) (D : aD) : Option (Int32 × aD) :=
  (f_X12_tellSums 107 5 v1 D).bind (fun D_1 => aBi (f_X12_first (-1) D_1) (fun y_2 D_3 => some (y_2, D_3)))
set_option maxRecDepth 100000 in
set_option maxHeartbeats 800000 in
theorem c_X12_winnerBy {G : aG} (hG : gOK G) {shp : List aSh} (hS : aShp shp) {fr : Option Nat} {v1 : Int32} {D : aD} {K : Int32 → aD → Prop} (h : Ok2 (f_X12_winnerBy v1 D) K) : AC G (aRm 5 0 0) M_X12_winnerBy [.ref 88, .int v1] fr shp D (aQi shp K) := by
  replace h := Ok2.ok h
  unfold f_X12_winnerBy at h
  refine AC.of (al := [some (.ref 88), some (.int v1)]) (r := 0) (by decide) (Nat.le_of_ble_eq_true rfl) rfl ?_
  refine aw_aload_n (n := 1) (i := 0) dX12_winnerBy_0 rfl rfl rfl ?_
  refine aw_aload_n (n := 2) (i := 0) dX12_winnerBy_1 rfl rfl rfl ?_
  refine aw_getR (n := 5) (j := 29) (r := 107) hG.1 fl_RX12_79 (sF_88 hS) rfl dX12_winnerBy_2 rfl ?_
  refine aw_iload_n (n := 6) (i := 1) dX12_winnerBy_5 rfl rfl rfl ?_
  refine aw_cVv (M := M_X12_winnerBy) (n := 9) (As := [.ref 107, .int v1]) (rest := []) hG.1 lk_RX12_349 rfl rfl (sF_88 hS) (c_X12_tellSums hG hS (h := Ok.bind h) (sF_107 hS)) (by decide) (Nat.le_of_ble_eq_true rfl) (by decide) (by decide) dX12_winnerBy_6 rfl (fun D_1 h => ?_)
  refine aw_aload_n (n := 10) (i := 0) dX12_winnerBy_9 rfl rfl rfl ?_
  refine aw_iconst (n := 11) (v := (-1)) dX12_winnerBy_10 rfl (by decide) ?_
  refine aw_cVi (M := M_X12_winnerBy) (n := 14) (As := [.int (-1)]) (rest := []) hG.1 lk_RX12_353 rfl rfl (sF_88 hS) (c_X12_first hG hS (h := Ok.bi h)) (by decide) (Nat.le_of_ble_eq_true rfl) (by decide) (by decide) dX12_winnerBy_11 rfl (fun y_2 D_3 h => ?_)
  exact aw_iret rfl (by decide) (by decide) dX12_winnerBy_14 ⟨_, rfl, rfl, (Ok.dn h :)⟩
theorem dX12_winner_0 : decode cX12_winner 0 = .ok (.aload_n 0, 1) := by decide +kernel
theorem dX12_winner_1 : decode cX12_winner 1 = .ok (.iconst 0, 1) := by decide +kernel
theorem dX12_winner_2 : decode cX12_winner 2 = .ok (.putfield 157, 3) := by decide +kernel
theorem dX12_winner_5 : decode cX12_winner 5 = .ok (.iload_n 1, 1) := by decide +kernel
theorem dX12_winner_6 : decode cX12_winner 6 = .ok (.iconst 0, 1) := by decide +kernel
theorem dX12_winner_7 : decode cX12_winner 7 = .ok (.iconst 4, 1) := by decide +kernel
theorem dX12_winner_8 : decode cX12_winner 8 = .ok (.invokestatic 160, 3) := by decide +kernel
theorem dX12_winner_11 : decode cX12_winner 11 = .ok (.ifCond .eq 12, 3) := by decide +kernel
theorem dX12_winner_14 : decode cX12_winner 14 = .ok (.iload_n 2, 1) := by decide +kernel
theorem dX12_winner_15 : decode cX12_winner 15 = .ok (.ifCond .lt 8, 3) := by decide +kernel
theorem dX12_winner_18 : decode cX12_winner 18 = .ok (.iload_n 2, 1) := by decide +kernel
theorem dX12_winner_19 : decode cX12_winner 19 = .ok (.iconst 1, 1) := by decide +kernel
theorem dX12_winner_20 : decode cX12_winner 20 = .ok (.if_icmp .le 9, 3) := by decide +kernel
theorem dX12_winner_23 : decode cX12_winner 23 = .ok (.aload_n 0, 1) := by decide +kernel
theorem dX12_winner_24 : decode cX12_winner 24 = .ok (.iconst 1, 1) := by decide +kernel
theorem dX12_winner_25 : decode cX12_winner 25 = .ok (.invokevirtual 290, 3) := by decide +kernel
theorem dX12_winner_28 : decode cX12_winner 28 = .ok (.ireturn, 1) := by decide +kernel
theorem dX12_winner_29 : decode cX12_winner 29 = .ok (.aload_n 0, 1) := by decide +kernel
theorem dX12_winner_30 : decode cX12_winner 30 = .ok (.iload_n 1, 1) := by decide +kernel
theorem dX12_winner_31 : decode cX12_winner 31 = .ok (.invokevirtual 356, 3) := by decide +kernel
theorem dX12_winner_34 : decode cX12_winner 34 = .ok (.istore_n 3, 1) := by decide +kernel
theorem dX12_winner_35 : decode cX12_winner 35 = .ok (.aload_n 0, 1) := by decide +kernel
theorem dX12_winner_36 : decode cX12_winner 36 = .ok (.iload_n 3, 1) := by decide +kernel
theorem dX12_winner_37 : decode cX12_winner 37 = .ok (.invokevirtual 353, 3) := by decide +kernel
theorem dX12_winner_40 : decode cX12_winner 40 = .ok (.istore 4, 2) := by decide +kernel
theorem dX12_winner_42 : decode cX12_winner 42 = .ok (.iload_n 3, 1) := by decide +kernel
theorem dX12_winner_43 : decode cX12_winner 43 = .ok (.iconst (-1), 1) := by decide +kernel
theorem dX12_winner_44 : decode cX12_winner 44 = .ok (.if_icmp .ne 7, 3) := by decide +kernel
theorem dX12_winner_47 : decode cX12_winner 47 = .ok (.iconst (-1), 1) := by decide +kernel
theorem dX12_winner_48 : decode cX12_winner 48 = .ok (.goto 35, 3) := by decide +kernel
theorem dX12_winner_51 : decode cX12_winner 51 = .ok (.iload_n 2, 1) := by decide +kernel
theorem dX12_winner_52 : decode cX12_winner 52 = .ok (.ifCond .ne 7, 3) := by decide +kernel
theorem dX12_winner_55 : decode cX12_winner 55 = .ok (.iload_n 3, 1) := by decide +kernel
theorem dX12_winner_56 : decode cX12_winner 56 = .ok (.goto 27, 3) := by decide +kernel
theorem dX12_winner_59 : decode cX12_winner 59 = .ok (.iload 4, 2) := by decide +kernel
theorem dX12_winner_61 : decode cX12_winner 61 = .ok (.iconst (-1), 1) := by decide +kernel
theorem dX12_winner_62 : decode cX12_winner 62 = .ok (.if_icmp .ne 7, 3) := by decide +kernel
theorem dX12_winner_65 : decode cX12_winner 65 = .ok (.iconst 0, 1) := by decide +kernel
theorem dX12_winner_66 : decode cX12_winner 66 = .ok (.goto 17, 3) := by decide +kernel
theorem dX12_winner_69 : decode cX12_winner 69 = .ok (.aload_n 0, 1) := by decide +kernel
theorem dX12_winner_70 : decode cX12_winner 70 = .ok (.getfield 97, 3) := by decide +kernel
theorem dX12_winner_73 : decode cX12_winner 73 = .ok (.iload_n 3, 1) := by decide +kernel
theorem dX12_winner_74 : decode cX12_winner 74 = .ok (.iaload, 1) := by decide +kernel
theorem dX12_winner_75 : decode cX12_winner 75 = .ok (.aload_n 0, 1) := by decide +kernel
theorem dX12_winner_76 : decode cX12_winner 76 = .ok (.getfield 97, 3) := by decide +kernel
theorem dX12_winner_79 : decode cX12_winner 79 = .ok (.iload 4, 2) := by decide +kernel
theorem dX12_winner_81 : decode cX12_winner 81 = .ok (.iaload, 1) := by decide +kernel
theorem dX12_winner_82 : decode cX12_winner 82 = .ok (.isub, 1) := by decide +kernel
theorem dX12_winner_83 : decode cX12_winner 83 = .ok (.ireturn, 1) := by decide +kernel
def f_X12_winner (v1 : Int32) (v2 : Int32) (D : aD) : Option (Int32 × aD) :=
  aLet (pI D 88 2 0) (fun D_1 => aBi (f_X12_isIn v1 0 4 D_1) (fun y_2 D_3 => if y_2 = 0 then (aBi (f_X12_fail 1 D_3) (fun y_4 D_5 => some (y_4, D_5))) else (if v2 < 0 then (aBi (f_X12_fail 1 D_3) (fun y_6 D_7 => some (y_6, D_7))) else (if v2 ≤ 1 then (aBi (f_X12_winnerBy v1 D_3) (fun y_8 D_9 => aBi (f_X12_first y_8 D_9) (fun y_10 D_11 => if y_8 ≠ (-1) then (if v2 ≠ 0 then (if y_10 ≠ (-1) then (aGd (aIn y_8 5) (aGd (aIn y_10 5) (some ((gI D_11 112 y_8.toNatClampNeg) - (gI D_11 112 y_10.toNatClampNeg), D_11)))) else (some (0, D_11))) else (some (y_8, D_11))) else (some ((-1), D_11))))) else (aBi (f_X12_fail 1 D_3) (fun y_14 D_15 => some (y_14, D_15)))))))
set_option maxRecDepth 100000 in
set_option maxHeartbeats 800000 in
theorem c_X12_winner {G : aG} (hG : gOK G) {shp : List aSh} (hS : aShp shp) {fr : Option Nat} {v1 : Int32} {v2 : Int32} {D : aD} {K : Int32 → aD → Prop} (h : Ok2 (f_X12_winner v1 v2 D) K) : AC G (aRm 6 0 0) M_X12_winner [.ref 88, .int v1, .int v2] fr shp D (aQi shp K) := by
  replace h := Ok2.ok h
  unfold f_X12_winner at h
  refine AC.of (al := [some (.ref 88), some (.int v1), some (.int v2), none, none]) (r := 2) (by decide) (Nat.le_of_ble_eq_true rfl) rfl ?_
  refine aw_aload_n (n := 1) (i := 0) dX12_winner_0 rfl rfl rfl ?_
  refine aw_iconst (n := 2) (v := 0) dX12_winner_1 rfl (by decide) ?_
  obtain ⟨D_1, e_D_1, h⟩ := Ok.let_ h
  refine aw_putI (n := 5) (j := 2) hG.1 fl_RX12_157 (sF_88 hS) rfl e_D_1 dX12_winner_2 rfl ?_
  refine aw_iload_n (n := 6) (i := 1) dX12_winner_5 rfl rfl rfl ?_
  refine aw_iconst (n := 7) (v := 0) dX12_winner_6 rfl (by decide) ?_
  refine aw_iconst (n := 8) (v := 4) dX12_winner_7 rfl (by decide) ?_
  refine aw_cSi (M := M_X12_winner) (n := 11) (As := [.int v1, .int 0, .int 4]) (rest := []) lk_RX12_160 rfl rfl (c_X12_isIn hG hS (h := Ok.bi h)) (by decide) (Nat.le_of_ble_eq_true rfl) (by decide) (by decide) dX12_winner_8 rfl (fun y_2 D_3 h => ?_)
  refine aw_if_eq (n := 14) (tgt := 23) dX12_winner_11 rfl (by decide) (fun c => ?_) (fun c => ?_)
  · replace h := Ok.ift h c
    refine aw_aload_n (n := 24) (i := 0) dX12_winner_23 rfl rfl rfl ?_
    refine aw_iconst (n := 25) (v := 1) dX12_winner_24 rfl (by decide) ?_
    refine aw_cVi (M := M_X12_winner) (n := 28) (As := [.int 1]) (rest := []) hG.1 lk_RX12_290 rfl rfl (sF_88 hS) (c_X12_fail hG hS (h := Ok.bi h)) (by decide) (Nat.le_of_ble_eq_true rfl) (by decide) (by decide) dX12_winner_25 rfl (fun y_4 D_5 h => ?_)
    exact aw_iret rfl (by decide) (by decide) dX12_winner_28 ⟨_, rfl, rfl, (Ok.dn h :)⟩
  · replace h := Ok.iff h c
    refine aw_iload_n (n := 15) (i := 2) dX12_winner_14 rfl rfl rfl ?_
    refine aw_if_lt (n := 18) (tgt := 23) dX12_winner_15 rfl (by decide) (fun c => ?_) (fun c => ?_)
    · replace h := Ok.ift h c
      refine aw_aload_n (n := 24) (i := 0) dX12_winner_23 rfl rfl rfl ?_
      refine aw_iconst (n := 25) (v := 1) dX12_winner_24 rfl (by decide) ?_
      refine aw_cVi (M := M_X12_winner) (n := 28) (As := [.int 1]) (rest := []) hG.1 lk_RX12_290 rfl rfl (sF_88 hS) (c_X12_fail hG hS (h := Ok.bi h)) (by decide) (Nat.le_of_ble_eq_true rfl) (by decide) (by decide) dX12_winner_25 rfl (fun y_6 D_7 h => ?_)
      exact aw_iret rfl (by decide) (by decide) dX12_winner_28 ⟨_, rfl, rfl, (Ok.dn h :)⟩
    · replace h := Ok.iff h c
      refine aw_iload_n (n := 19) (i := 2) dX12_winner_18 rfl rfl rfl ?_
      refine aw_iconst (n := 20) (v := 1) dX12_winner_19 rfl (by decide) ?_
      refine aw_icmp_le (n := 23) (tgt := 29) dX12_winner_20 rfl (by decide) (fun c => ?_) (fun c => ?_)
      · replace h := Ok.ift h c
        refine aw_aload_n (n := 30) (i := 0) dX12_winner_29 rfl rfl rfl ?_
        refine aw_iload_n (n := 31) (i := 1) dX12_winner_30 rfl rfl rfl ?_
        refine aw_cVi (M := M_X12_winner) (n := 34) (As := [.int v1]) (rest := []) hG.1 lk_RX12_356 rfl rfl (sF_88 hS) (c_X12_winnerBy hG hS (h := Ok.bi h)) (by decide) (Nat.le_of_ble_eq_true rfl) (by decide) (by decide) dX12_winner_31 rfl (fun y_8 D_9 h => ?_)
        refine aw_istore_n (n := 35) (i := 3) (al' := [some (.ref 88), some (.int v1), some (.int v2), some (.int y_8), none]) dX12_winner_34 rfl rfl rfl (by decide) rfl ?_
        refine aw_aload_n (n := 36) (i := 0) dX12_winner_35 rfl rfl rfl ?_
        refine aw_iload_n (n := 37) (i := 3) dX12_winner_36 rfl rfl rfl ?_
        refine aw_cVi (M := M_X12_winner) (n := 40) (As := [.int y_8]) (rest := []) hG.1 lk_RX12_353 rfl rfl (sF_88 hS) (c_X12_first hG hS (h := Ok.bi h)) (by decide) (Nat.le_of_ble_eq_true rfl) (by decide) (by decide) dX12_winner_37 rfl (fun y_10 D_11 h => ?_)
        refine aw_istore (n := 42) (i := 4) (al' := [some (.ref 88), some (.int v1), some (.int v2), some (.int y_8), some (.int y_10)]) dX12_winner_40 rfl rfl (by decide) rfl ?_
        refine aw_iload_n (n := 43) (i := 3) dX12_winner_42 rfl rfl rfl ?_
        refine aw_iconst (n := 44) (v := (-1)) dX12_winner_43 rfl (by decide) ?_
        refine aw_icmp_ne (n := 47) (tgt := 51) dX12_winner_44 rfl (by decide) (fun c => ?_) (fun c => ?_)
        · replace h := Ok.ift h c
          refine aw_iload_n (n := 52) (i := 2) dX12_winner_51 rfl rfl rfl ?_
          refine aw_if_ne (n := 55) (tgt := 59) dX12_winner_52 rfl (by decide) (fun c => ?_) (fun c => ?_)
          · replace h := Ok.ift h c
            refine aw_iload (n := 61) (i := 4) dX12_winner_59 rfl rfl ?_
            refine aw_iconst (n := 62) (v := (-1)) dX12_winner_61 rfl (by decide) ?_
            refine aw_icmp_ne (n := 65) (tgt := 69) dX12_winner_62 rfl (by decide) (fun c => ?_) (fun c => ?_)
            · replace h := Ok.ift h c
              refine aw_aload_n (n := 70) (i := 0) dX12_winner_69 rfl rfl rfl ?_
              refine aw_getR (n := 73) (j := 38) (r := 112) hG.1 fl_RX12_97 (sF_88 hS) rfl dX12_winner_70 rfl ?_
              refine aw_iload_n (n := 74) (i := 3) dX12_winner_73 rfl rfl rfl ?_
              obtain ⟨g_12, h⟩ := Ok.gd h
              refine aw_iaload (n := 75) hG.1 (sF_112 hS) (aIn_in g_12) dX12_winner_74 rfl ?_
              refine aw_aload_n (n := 76) (i := 0) dX12_winner_75 rfl rfl rfl ?_
              refine aw_getR (n := 79) (j := 38) (r := 112) hG.1 fl_RX12_97 (sF_88 hS) rfl dX12_winner_76 rfl ?_
              refine aw_iload (n := 81) (i := 4) dX12_winner_79 rfl rfl ?_
              obtain ⟨g_13, h⟩ := Ok.gd h
              refine aw_iaload (n := 82) hG.1 (sF_112 hS) (aIn_in g_13) dX12_winner_81 rfl ?_
              refine aw_isub (n := 83) dX12_winner_82 rfl ?_
              exact aw_iret rfl (by decide) (by decide) dX12_winner_83 ⟨_, rfl, rfl, (Ok.dn h :)⟩
            · replace h := Ok.iffn h c
              refine aw_iconst (n := 66) (v := 0) dX12_winner_65 rfl (by decide) ?_
              refine aw_goto (tgt := 83) dX12_winner_66 (by decide) ?_
              exact aw_iret rfl (by decide) (by decide) dX12_winner_83 ⟨_, rfl, rfl, (Ok.dn h :)⟩
          · replace h := Ok.iffn h c
            refine aw_iload_n (n := 56) (i := 3) dX12_winner_55 rfl rfl rfl ?_
            refine aw_goto (tgt := 83) dX12_winner_56 (by decide) ?_
            exact aw_iret rfl (by decide) (by decide) dX12_winner_83 ⟨_, rfl, rfl, (Ok.dn h :)⟩
        · replace h := Ok.iffn h c
          refine aw_iconst (n := 48) (v := (-1)) dX12_winner_47 rfl (by decide) ?_
          refine aw_goto (tgt := 83) dX12_winner_48 (by decide) ?_
          exact aw_iret rfl (by decide) (by decide) dX12_winner_83 ⟨_, rfl, rfl, (Ok.dn h :)⟩
      · replace h := Ok.iff h c
        refine aw_aload_n (n := 24) (i := 0) dX12_winner_23 rfl rfl rfl ?_
        refine aw_iconst (n := 25) (v := 1) dX12_winner_24 rfl (by decide) ?_
        refine aw_cVi (M := M_X12_winner) (n := 28) (As := [.int 1]) (rest := []) hG.1 lk_RX12_290 rfl rfl (sF_88 hS) (c_X12_fail hG hS (h := Ok.bi h)) (by decide) (Nat.le_of_ble_eq_true rfl) (by decide) (by decide) dX12_winner_25 rfl (fun y_14 D_15 h => ?_)
        exact aw_iret rfl (by decide) (by decide) dX12_winner_28 ⟨_, rfl, rfl, (Ok.dn h :)⟩
theorem dX12_prize_0 : decode cX12_prize 0 = .ok (.aload_n 0, 1) := by decide +kernel
theorem dX12_prize_1 : decode cX12_prize 1 = .ok (.iconst 0, 1) := by decide +kernel
theorem dX12_prize_2 : decode cX12_prize 2 = .ok (.putfield 157, 3) := by decide +kernel
theorem dX12_prize_5 : decode cX12_prize 5 = .ok (.aload_n 0, 1) := by decide +kernel
theorem dX12_prize_6 : decode cX12_prize 6 = .ok (.iload_n 1, 1) := by decide +kernel
theorem dX12_prize_7 : decode cX12_prize 7 = .ok (.invokevirtual 343, 3) := by decide +kernel
theorem dX12_prize_10 : decode cX12_prize 10 = .ok (.ifCond .eq 12, 3) := by decide +kernel
theorem dX12_prize_13 : decode cX12_prize 13 = .ok (.iload_n 2, 1) := by decide +kernel
theorem dX12_prize_14 : decode cX12_prize 14 = .ok (.iconst 0, 1) := by decide +kernel
theorem dX12_prize_15 : decode cX12_prize 15 = .ok (.iconst 4, 1) := by decide +kernel
theorem dX12_prize_16 : decode cX12_prize 16 = .ok (.invokestatic 160, 3) := by decide +kernel
theorem dX12_prize_19 : decode cX12_prize 19 = .ok (.ifCond .ne 9, 3) := by decide +kernel
theorem dX12_prize_22 : decode cX12_prize 22 = .ok (.aload_n 0, 1) := by decide +kernel
theorem dX12_prize_23 : decode cX12_prize 23 = .ok (.iconst 1, 1) := by decide +kernel
theorem dX12_prize_24 : decode cX12_prize 24 = .ok (.invokevirtual 290, 3) := by decide +kernel
theorem dX12_prize_27 : decode cX12_prize 27 = .ok (.ireturn, 1) := by decide +kernel
theorem dX12_prize_28 : decode cX12_prize 28 = .ok (.iload_n 3, 1) := by decide +kernel
theorem dX12_prize_29 : decode cX12_prize 29 = .ok (.iconst 0, 1) := by decide +kernel
theorem dX12_prize_30 : decode cX12_prize 30 = .ok (.sipush 9999, 3) := by decide +kernel
theorem dX12_prize_33 : decode cX12_prize 33 = .ok (.invokestatic 160, 3) := by decide +kernel
theorem dX12_prize_36 : decode cX12_prize 36 = .ok (.ifCond .ne 9, 3) := by decide +kernel
theorem dX12_prize_39 : decode cX12_prize 39 = .ok (.aload_n 0, 1) := by decide +kernel
theorem dX12_prize_40 : decode cX12_prize 40 = .ok (.iconst 2, 1) := by decide +kernel
theorem dX12_prize_41 : decode cX12_prize 41 = .ok (.invokevirtual 290, 3) := by decide +kernel
theorem dX12_prize_44 : decode cX12_prize 44 = .ok (.ireturn, 1) := by decide +kernel
theorem dX12_prize_45 : decode cX12_prize 45 = .ok (.aload_n 0, 1) := by decide +kernel
theorem dX12_prize_46 : decode cX12_prize 46 = .ok (.iload_n 2, 1) := by decide +kernel
theorem dX12_prize_47 : decode cX12_prize 47 = .ok (.invokevirtual 356, 3) := by decide +kernel
theorem dX12_prize_50 : decode cX12_prize 50 = .ok (.istore 4, 2) := by decide +kernel
theorem dX12_prize_52 : decode cX12_prize 52 = .ok (.lconst 0, 1) := by decide +kernel
theorem dX12_prize_53 : decode cX12_prize 53 = .ok (.lstore 5, 2) := by decide +kernel
theorem dX12_prize_55 : decode cX12_prize 55 = .ok (.iconst 0, 1) := by decide +kernel
theorem dX12_prize_56 : decode cX12_prize 56 = .ok (.istore 7, 2) := by decide +kernel
theorem dX12_prize_58 : decode cX12_prize 58 = .ok (.iload 7, 2) := by decide +kernel
theorem dX12_prize_60 : decode cX12_prize 60 = .ok (.aload_n 0, 1) := by decide +kernel
theorem dX12_prize_61 : decode cX12_prize 61 = .ok (.getfield 27, 3) := by decide +kernel
theorem dX12_prize_64 : decode cX12_prize 64 = .ok (.iconst 3, 1) := by decide +kernel
theorem dX12_prize_65 : decode cX12_prize 65 = .ok (.iaload, 1) := by decide +kernel
theorem dX12_prize_66 : decode cX12_prize 66 = .ok (.if_icmp .ge 26, 3) := by decide +kernel
theorem dX12_prize_69 : decode cX12_prize 69 = .ok (.lload 5, 2) := by decide +kernel
theorem dX12_prize_71 : decode cX12_prize 71 = .ok (.iconst 0, 1) := by decide +kernel
theorem dX12_prize_72 : decode cX12_prize 72 = .ok (.aload_n 0, 1) := by decide +kernel
theorem dX12_prize_73 : decode cX12_prize 73 = .ok (.getfield 97, 3) := by decide +kernel
theorem dX12_prize_76 : decode cX12_prize 76 = .ok (.iload 7, 2) := by decide +kernel
theorem dX12_prize_78 : decode cX12_prize 78 = .ok (.iaload, 1) := by decide +kernel
theorem dX12_prize_79 : decode cX12_prize 79 = .ok (.invokestatic 326, 3) := by decide +kernel
theorem dX12_prize_82 : decode cX12_prize 82 = .ok (.i2l, 1) := by decide +kernel
theorem dX12_prize_83 : decode cX12_prize 83 = .ok (.ladd, 1) := by decide +kernel
theorem dX12_prize_84 : decode cX12_prize 84 = .ok (.lstore 5, 2) := by decide +kernel
theorem dX12_prize_86 : decode cX12_prize 86 = .ok (.iinc 7 1, 3) := by decide +kernel
theorem dX12_prize_89 : decode cX12_prize 89 = .ok (.goto (-31), 3) := by decide +kernel
theorem dX12_prize_92 : decode cX12_prize 92 = .ok (.iload_n 3, 1) := by decide +kernel
theorem dX12_prize_93 : decode cX12_prize 93 = .ok (.istore 7, 2) := by decide +kernel
theorem dX12_prize_95 : decode cX12_prize 95 = .ok (.iconst 0, 1) := by decide +kernel
theorem dX12_prize_96 : decode cX12_prize 96 = .ok (.istore 8, 2) := by decide +kernel
theorem dX12_prize_98 : decode cX12_prize 98 = .ok (.iconst 0, 1) := by decide +kernel
theorem dX12_prize_99 : decode cX12_prize 99 = .ok (.istore 9, 2) := by decide +kernel
theorem dX12_prize_101 : decode cX12_prize 101 = .ok (.iload 9, 2) := by decide +kernel
theorem dX12_prize_103 : decode cX12_prize 103 = .ok (.aload_n 0, 1) := by decide +kernel
theorem dX12_prize_104 : decode cX12_prize 104 = .ok (.getfield 27, 3) := by decide +kernel
theorem dX12_prize_107 : decode cX12_prize 107 = .ok (.iconst 3, 1) := by decide +kernel
theorem dX12_prize_108 : decode cX12_prize 108 = .ok (.iaload, 1) := by decide +kernel
theorem dX12_prize_109 : decode cX12_prize 109 = .ok (.if_icmp .ge 59, 3) := by decide +kernel
theorem dX12_prize_112 : decode cX12_prize 112 = .ok (.lload 5, 2) := by decide +kernel
theorem dX12_prize_114 : decode cX12_prize 114 = .ok (.lconst 0, 1) := by decide +kernel
theorem dX12_prize_115 : decode cX12_prize 115 = .ok (.lcmp, 1) := by decide +kernel
theorem dX12_prize_116 : decode cX12_prize 116 = .ok (.ifCond .le 52, 3) := by decide +kernel
theorem dX12_prize_119 : decode cX12_prize 119 = .ok (.iload_n 3, 1) := by decide +kernel
theorem dX12_prize_120 : decode cX12_prize 120 = .ok (.i2l, 1) := by decide +kernel
theorem dX12_prize_121 : decode cX12_prize 121 = .ok (.iconst 0, 1) := by decide +kernel
theorem dX12_prize_122 : decode cX12_prize 122 = .ok (.aload_n 0, 1) := by decide +kernel
theorem dX12_prize_123 : decode cX12_prize 123 = .ok (.getfield 97, 3) := by decide +kernel
theorem dX12_prize_126 : decode cX12_prize 126 = .ok (.iload 9, 2) := by decide +kernel
theorem dX12_prize_128 : decode cX12_prize 128 = .ok (.iaload, 1) := by decide +kernel
theorem dX12_prize_129 : decode cX12_prize 129 = .ok (.invokestatic 326, 3) := by decide +kernel
theorem dX12_prize_132 : decode cX12_prize 132 = .ok (.i2l, 1) := by decide +kernel
theorem dX12_prize_133 : decode cX12_prize 133 = .ok (.lmul, 1) := by decide +kernel
theorem dX12_prize_134 : decode cX12_prize 134 = .ok (.lload 5, 2) := by decide +kernel
theorem dX12_prize_136 : decode cX12_prize 136 = .ok (.ldiv, 1) := by decide +kernel
theorem dX12_prize_137 : decode cX12_prize 137 = .ok (.l2i, 1) := by decide +kernel
theorem dX12_prize_138 : decode cX12_prize 138 = .ok (.istore 10, 2) := by decide +kernel
theorem dX12_prize_140 : decode cX12_prize 140 = .ok (.iload 7, 2) := by decide +kernel
theorem dX12_prize_142 : decode cX12_prize 142 = .ok (.iload 10, 2) := by decide +kernel
theorem dX12_prize_144 : decode cX12_prize 144 = .ok (.isub, 1) := by decide +kernel
theorem dX12_prize_145 : decode cX12_prize 145 = .ok (.istore 7, 2) := by decide +kernel
theorem dX12_prize_147 : decode cX12_prize 147 = .ok (.iload 9, 2) := by decide +kernel
theorem dX12_prize_149 : decode cX12_prize 149 = .ok (.iload_n 1, 1) := by decide +kernel
theorem dX12_prize_150 : decode cX12_prize 150 = .ok (.if_icmp .ne 8, 3) := by decide +kernel
theorem dX12_prize_153 : decode cX12_prize 153 = .ok (.iload 10, 2) := by decide +kernel
theorem dX12_prize_155 : decode cX12_prize 155 = .ok (.goto 5, 3) := by decide +kernel
theorem dX12_prize_158 : decode cX12_prize 158 = .ok (.iload 8, 2) := by decide +kernel
theorem dX12_prize_160 : decode cX12_prize 160 = .ok (.istore 8, 2) := by decide +kernel
theorem dX12_prize_162 : decode cX12_prize 162 = .ok (.iinc 9 1, 3) := by decide +kernel
theorem dX12_prize_165 : decode cX12_prize 165 = .ok (.goto (-64), 3) := by decide +kernel
theorem dX12_prize_168 : decode cX12_prize 168 = .ok (.iload_n 1, 1) := by decide +kernel
theorem dX12_prize_169 : decode cX12_prize 169 = .ok (.iload 4, 2) := by decide +kernel
theorem dX12_prize_171 : decode cX12_prize 171 = .ok (.if_icmp .ne 11, 3) := by decide +kernel
theorem dX12_prize_174 : decode cX12_prize 174 = .ok (.iload 8, 2) := by decide +kernel
theorem dX12_prize_176 : decode cX12_prize 176 = .ok (.iload 7, 2) := by decide +kernel
theorem dX12_prize_178 : decode cX12_prize 178 = .ok (.iadd, 1) := by decide +kernel
theorem dX12_prize_179 : decode cX12_prize 179 = .ok (.goto 5, 3) := by decide +kernel
theorem dX12_prize_182 : decode cX12_prize 182 = .ok (.iload 8, 2) := by decide +kernel
theorem dX12_prize_184 : decode cX12_prize 184 = .ok (.ireturn, 1) := by decide +kernel
def J_X12_prize_168 (v1 : Int32) (v4 : Int32) (v7 : Int32) (v8 : Int32) (D : aD) : Option (Int32 × aD) :=
  if v1 ≠ v4 then (some (v8, D)) else (some (v8 + v7, D))
def B_X12_prize_101 (v1 : Int32) (v3 : Int32) (v4 : Int32) (v5 : Int64) (v7 : Int32) (v8 : Int32) (v9 : Int32) (D : aD) : Option ((Int32 × Int32 × Int32 × aD) ⊕ ((Int32 × Int32 × aD))) :=
  aGd (aIn 3 32) (if gI D 91 (3 : Int32).toNatClampNeg ≤ v9 then (some (.inr (v7, v8, D))) else (if lg_cmp v5 0 ≤ 0 then (some (.inr (v7, v8, D))) else (aGd (aIn v9 5) (aGd (aNzL v5) (aLet ((((v3.toInt64) * ((if 0 < (gI D 112 v9.toNatClampNeg) then (gI D 112 v9.toNatClampNeg) else 0).toInt64)) / v5).toInt32) (fun v10_15 => aLet (v7 - v10_15) (fun v7_16 => if v9 ≠ v1 then (aLet (v9 + 1) (fun v9_17 => some (.inl (v7_16, v8, v9_17, D)))) else (aLet (v9 + 1) (fun v9_18 => some (.inl (v7_16, v10_15, v9_18, D)))))))))))
def J_X12_prize_101 (v1 : Int32) (v3 : Int32) (v4 : Int32) (v5 : Int64) (v7 : Int32) (v8 : Int32) (v9 : Int32) (D : aD) : Option (Int32 × aD) :=
  (aLp (fun s => B_X12_prize_101 v1 v3 v4 v5 s.1 s.2.1 s.2.2.1 s.2.2.2) (v7, v8, v9, D)).bind (fun r => J_X12_prize_168 v1 v4 (r.1) (r.2.1) r.2.2)
def J_X12_prize_92 (v1 : Int32) (v3 : Int32) (v4 : Int32) (v5 : Int64) (D : aD) : Option (Int32 × aD) :=
  J_X12_prize_101 v1 v3 v4 v5 v3 0 0 D
def B_X12_prize_58 (v1 : Int32) (v3 : Int32) (v4 : Int32) (v5 : Int64) (v7 : Int32) (D : aD) : Option ((Int64 × Int32 × aD) ⊕ ((Int64 × aD))) :=
  aGd (aIn 3 32) (if gI D 91 (3 : Int32).toNatClampNeg ≤ v7 then (some (.inr (v5, D))) else (aGd (aIn v7 5) (aLet (v5 + ((if 0 < (gI D 112 v7.toNatClampNeg) then (gI D 112 v7.toNatClampNeg) else 0).toInt64)) (fun v5_21 => aLet (v7 + 1) (fun v7_22 => some (.inl (v5_21, v7_22, D)))))))
def J_X12_prize_58 (v1 : Int32) (v3 : Int32) (v4 : Int32) (v5 : Int64) (v7 : Int32) (D : aD) : Option (Int32 × aD) :=
  (aLp (fun s => B_X12_prize_58 v1 v3 v4 s.1 s.2.1 s.2.2) (v5, v7, D)).bind (fun r => J_X12_prize_92 v1 v3 v4 (r.1) r.2)
def f_X12_prize (v1 : Int32) (v2 : Int32) (v3 : Int32) (D : aD) : Option (Int32 × aD) :=
  aLet (pI D 88 2 0) (fun D_1 => aBi (f_X12_isGarden v1 D_1) (fun y_2 D_3 => if y_2 = 0 then (aBi (f_X12_fail 1 D_3) (fun y_4 D_5 => some (y_4, D_5))) else (aBi (f_X12_isIn v2 0 4 D_3) (fun y_6 D_7 => if y_6 ≠ 0 then (aBi (f_X12_isIn v3 0 9999 D_7) (fun y_8 D_9 => if y_8 ≠ 0 then (aBi (f_X12_winnerBy v2 D_9) (fun y_10 D_11 => J_X12_prize_58 v1 v3 y_10 0 0 D_11)) else (aBi (f_X12_fail 2 D_9) (fun y_23 D_24 => some (y_23, D_24))))) else (aBi (f_X12_fail 1 D_7) (fun y_25 D_26 => some (y_25, D_26)))))))
set_option maxRecDepth 100000 in
set_option maxHeartbeats 800000 in
theorem c_X12_prize {G : aG} (hG : gOK G) {shp : List aSh} (hS : aShp shp) {fr : Option Nat} {v1 : Int32} {v2 : Int32} {v3 : Int32} {D : aD} {K : Int32 → aD → Prop} (h : Ok2 (f_X12_prize v1 v2 v3 D) K) : AC G (aRm 6 0 0) M_X12_prize [.ref 88, .int v1, .int v2, .int v3] fr shp D (aQi shp K) := by
  replace h := Ok2.ok h
  unfold f_X12_prize at h
  refine AC.of (al := [some (.ref 88), some (.int v1), some (.int v2), some (.int v3), none, none, none, none, none, none, none]) (r := 7) (by decide) (Nat.le_of_ble_eq_true rfl) rfl ?_
  have hJ_168 : ∀ (v1 : Int32) (v4 : Int32) (v7 : Int32) (v8 : Int32) (D : aD), Ok (J_X12_prize_168 v1 v4 v7 v8 D) (fun r => K r.1 r.2) → AW G (aRm 6 0 0) M_X12_prize fr 0 0 168 [none, some (.int v1), none, none, some (.int v4), none, none, some (.int v7), some (.int v8), none, none] [] shp D (aQi shp K) := by
    intro v1 v4 v7 v8 D h
    unfold J_X12_prize_168 at h
    refine aw_iload_n (n := 169) (i := 1) dX12_prize_168 rfl rfl rfl ?_
    refine aw_iload (n := 171) (i := 4) dX12_prize_169 rfl rfl ?_
    refine aw_icmp_ne (n := 174) (tgt := 182) dX12_prize_171 rfl (by decide) (fun c => ?_) (fun c => ?_)
    · replace h := Ok.ift h c
      refine aw_iload (n := 184) (i := 8) dX12_prize_182 rfl rfl ?_
      exact aw_iret rfl (by decide) (by decide) dX12_prize_184 ⟨_, rfl, rfl, (Ok.dn h :)⟩
    · replace h := Ok.iffn h c
      refine aw_iload (n := 176) (i := 8) dX12_prize_174 rfl rfl ?_
      refine aw_iload (n := 178) (i := 7) dX12_prize_176 rfl rfl ?_
      refine aw_iadd (n := 179) dX12_prize_178 rfl ?_
      refine aw_goto (tgt := 184) dX12_prize_179 (by decide) ?_
      exact aw_iret rfl (by decide) (by decide) dX12_prize_184 ⟨_, rfl, rfl, (Ok.dn h :)⟩
  have hJ_101 : ∀ (v1 : Int32) (v3 : Int32) (v4 : Int32) (v5 : Int64) (v7 : Int32) (v8 : Int32) (v9 : Int32) (D : aD), Ok (J_X12_prize_101 v1 v3 v4 v5 v7 v8 v9 D) (fun r => K r.1 r.2) → AW G (aRm 6 0 0) M_X12_prize fr 0 0 101 [some (.ref 88), some (.int v1), none, some (.int v3), some (.int v4), some (.long v5), none, some (.int v7), some (.int v8), some (.int v9), none] [] shp D (aQi shp K) := by
    intro v1 v3 v4 v5 v7 v8 v9 D h
    unfold J_X12_prize_101 at h
    refine Ok.lp (P := fun s => AW G (aRm 6 0 0) M_X12_prize fr 0 0 101 [some (.ref 88), some (.int v1), none, some (.int v3), some (.int v4), some (.long v5), none, some (.int (s.1)), some (.int (s.2.1)), some (.int (s.2.2.1)), none] [] shp s.2.2.2 (aQi shp K)) (fun s Kb101 hL101 hR101 h => ?_) (v7, v8, v9, D) (Ok.bind h)
    obtain ⟨v7, v8, v9, D⟩ := s
    replace h : Ok (B_X12_prize_101 v1 v3 v4 v5 v7 v8 v9 D) Kb101 := h
    unfold B_X12_prize_101 at h
    refine aw_iload (n := 103) (i := 9) dX12_prize_101 rfl rfl ?_
    refine aw_aload_n (n := 104) (i := 0) dX12_prize_103 rfl rfl rfl ?_
    refine aw_getR (n := 107) (j := 3) (r := 91) hG.1 fl_RX12_27 (sF_88 hS) rfl dX12_prize_104 rfl ?_
    refine aw_iconst (n := 108) (v := 3) dX12_prize_107 rfl (by decide) ?_
    obtain ⟨g_12, h⟩ := Ok.gd h
    refine aw_iaload (n := 109) hG.1 (sF_91 hS) (aIn_in g_12) dX12_prize_108 rfl ?_
    refine aw_icmp_ge (n := 112) (tgt := 168) dX12_prize_109 rfl (by decide) (fun c => ?_) (fun c => ?_)
    · replace h := Ok.ift h c
      exact aw_le' (hJ_168 v1 v4 v7 v8 D (hR101 (v7, v8, D) (Ok.dn h :))) ⟨rfl, ⟨rfl, ⟨rfl, ⟨rfl, trivial⟩⟩⟩⟩
    · replace h := Ok.iff h c
      refine aw_lload (n := 114) (i := 5) dX12_prize_112 rfl rfl ?_
      refine aw_lconst (n := 115) (v := 0) dX12_prize_114 rfl (by decide) ?_
      refine aw_lcmp (n := 116) dX12_prize_115 rfl ?_
      refine aw_if_le (n := 119) (tgt := 168) dX12_prize_116 rfl (by decide) (fun c => ?_) (fun c => ?_)
      · replace h := Ok.ift h c
        exact aw_le' (hJ_168 v1 v4 v7 v8 D (hR101 (v7, v8, D) (Ok.dn h :))) ⟨rfl, ⟨rfl, ⟨rfl, ⟨rfl, trivial⟩⟩⟩⟩
      · replace h := Ok.iff h c
        refine aw_iload_n (n := 120) (i := 3) dX12_prize_119 rfl rfl rfl ?_
        refine aw_i2l (n := 121) dX12_prize_120 rfl ?_
        refine aw_iconst (n := 122) (v := 0) dX12_prize_121 rfl (by decide) ?_
        refine aw_aload_n (n := 123) (i := 0) dX12_prize_122 rfl rfl rfl ?_
        refine aw_getR (n := 126) (j := 38) (r := 112) hG.1 fl_RX12_97 (sF_88 hS) rfl dX12_prize_123 rfl ?_
        refine aw_iload (n := 128) (i := 9) dX12_prize_126 rfl rfl ?_
        obtain ⟨g_13, h⟩ := Ok.gd h
        refine aw_iaload (n := 129) hG.1 (sF_112 hS) (aIn_in g_13) dX12_prize_128 rfl ?_
        refine aw_max (M := M_X12_prize) (n := 132) lm_RX12_326 mm_max.1 mm_max.2.1 mm_max.2.2 (by decide) (Nat.le_of_ble_eq_true rfl) (by decide) (by decide) dX12_prize_129 rfl ?_
        refine aw_i2l (n := 133) dX12_prize_132 rfl ?_
        refine aw_lmul (n := 134) dX12_prize_133 rfl ?_
        refine aw_lload (n := 136) (i := 5) dX12_prize_134 rfl rfl ?_
        obtain ⟨g_14, h⟩ := Ok.gd h
        refine aw_ldiv (n := 137) dX12_prize_136 rfl (aNzL_ne g_14) ?_
        refine aw_l2i (n := 138) dX12_prize_137 rfl ?_
        obtain ⟨v10_15, e_v10_15, h⟩ := Ok.let_ h
        refine aw_istore (n := 140) (i := 10) (al' := [some (.ref 88), some (.int v1), none, some (.int v3), some (.int v4), some (.long v5), none, some (.int v7), some (.int v8), some (.int v9), some (.int v10_15)]) dX12_prize_138 rfl e_v10_15 (by decide) rfl ?_
        refine aw_iload (n := 142) (i := 7) dX12_prize_140 rfl rfl ?_
        refine aw_iload (n := 144) (i := 10) dX12_prize_142 rfl rfl ?_
        refine aw_isub (n := 145) dX12_prize_144 rfl ?_
        obtain ⟨v7_16, e_v7_16, h⟩ := Ok.let_ h
        refine aw_istore (n := 147) (i := 7) (al' := [some (.ref 88), some (.int v1), none, some (.int v3), some (.int v4), some (.long v5), none, some (.int v7_16), some (.int v8), some (.int v9), some (.int v10_15)]) dX12_prize_145 rfl e_v7_16 (by decide) rfl ?_
        refine aw_iload (n := 149) (i := 9) dX12_prize_147 rfl rfl ?_
        refine aw_iload_n (n := 150) (i := 1) dX12_prize_149 rfl rfl rfl ?_
        refine aw_icmp_ne (n := 153) (tgt := 158) dX12_prize_150 rfl (by decide) (fun c => ?_) (fun c => ?_)
        · replace h := Ok.ift h c
          refine aw_iload (n := 160) (i := 8) dX12_prize_158 rfl rfl ?_
          refine aw_istore (n := 162) (i := 8) (al' := [some (.ref 88), some (.int v1), none, some (.int v3), some (.int v4), some (.long v5), none, some (.int v7_16), some (.int v8), some (.int v9), some (.int v10_15)]) dX12_prize_160 rfl rfl (by decide) rfl ?_
          obtain ⟨v9_17, e_v9_17, h⟩ := Ok.let_ h
          refine aw_iinc (n := 165) (al' := [some (.ref 88), some (.int v1), none, some (.int v3), some (.int v4), some (.long v5), none, some (.int v7_16), some (.int v8), some (.int v9_17), some (.int v10_15)]) dX12_prize_162 rfl rfl e_v9_17 (by decide) rfl ?_
          refine aw_goto (tgt := 101) dX12_prize_165 (by decide) ?_
          exact aw_le' (hL101 (v7_16, v8, v9_17, D) (Ok.dn h :)) ⟨rfl, ⟨rfl, ⟨rfl, ⟨rfl, ⟨rfl, ⟨rfl, ⟨rfl, ⟨rfl, trivial⟩⟩⟩⟩⟩⟩⟩⟩
        · replace h := Ok.iffn h c
          refine aw_iload (n := 155) (i := 10) dX12_prize_153 rfl rfl ?_
          refine aw_goto (tgt := 160) dX12_prize_155 (by decide) ?_
          refine aw_istore (n := 162) (i := 8) (al' := [some (.ref 88), some (.int v1), none, some (.int v3), some (.int v4), some (.long v5), none, some (.int v7_16), some (.int v10_15), some (.int v9), some (.int v10_15)]) dX12_prize_160 rfl rfl (by decide) rfl ?_
          obtain ⟨v9_18, e_v9_18, h⟩ := Ok.let_ h
          refine aw_iinc (n := 165) (al' := [some (.ref 88), some (.int v1), none, some (.int v3), some (.int v4), some (.long v5), none, some (.int v7_16), some (.int v10_15), some (.int v9_18), some (.int v10_15)]) dX12_prize_162 rfl rfl e_v9_18 (by decide) rfl ?_
          refine aw_goto (tgt := 101) dX12_prize_165 (by decide) ?_
          exact aw_le' (hL101 (v7_16, v10_15, v9_18, D) (Ok.dn h :)) ⟨rfl, ⟨rfl, ⟨rfl, ⟨rfl, ⟨rfl, ⟨rfl, ⟨rfl, ⟨rfl, trivial⟩⟩⟩⟩⟩⟩⟩⟩
  have hJ_92 : ∀ (v1 : Int32) (v3 : Int32) (v4 : Int32) (v5 : Int64) (D : aD), Ok (J_X12_prize_92 v1 v3 v4 v5 D) (fun r => K r.1 r.2) → AW G (aRm 6 0 0) M_X12_prize fr 0 0 92 [some (.ref 88), some (.int v1), none, some (.int v3), some (.int v4), some (.long v5), none, none, none, none, none] [] shp D (aQi shp K) := by
    intro v1 v3 v4 v5 D h
    unfold J_X12_prize_92 at h
    refine aw_iload_n (n := 93) (i := 3) dX12_prize_92 rfl rfl rfl ?_
    refine aw_istore (n := 95) (i := 7) (al' := [some (.ref 88), some (.int v1), none, some (.int v3), some (.int v4), some (.long v5), none, some (.int v3), none, none, none]) dX12_prize_93 rfl rfl (by decide) rfl ?_
    refine aw_iconst (n := 96) (v := 0) dX12_prize_95 rfl (by decide) ?_
    refine aw_istore (n := 98) (i := 8) (al' := [some (.ref 88), some (.int v1), none, some (.int v3), some (.int v4), some (.long v5), none, some (.int v3), some (.int 0), none, none]) dX12_prize_96 rfl rfl (by decide) rfl ?_
    refine aw_iconst (n := 99) (v := 0) dX12_prize_98 rfl (by decide) ?_
    refine aw_istore (n := 101) (i := 9) (al' := [some (.ref 88), some (.int v1), none, some (.int v3), some (.int v4), some (.long v5), none, some (.int v3), some (.int 0), some (.int 0), none]) dX12_prize_99 rfl rfl (by decide) rfl ?_
    exact aw_le' (hJ_101 v1 v3 v4 v5 v3 0 0 D h) ⟨rfl, ⟨rfl, ⟨rfl, ⟨rfl, ⟨rfl, ⟨rfl, ⟨rfl, ⟨rfl, trivial⟩⟩⟩⟩⟩⟩⟩⟩
  have hJ_58 : ∀ (v1 : Int32) (v3 : Int32) (v4 : Int32) (v5 : Int64) (v7 : Int32) (D : aD), Ok (J_X12_prize_58 v1 v3 v4 v5 v7 D) (fun r => K r.1 r.2) → AW G (aRm 6 0 0) M_X12_prize fr 0 0 58 [some (.ref 88), some (.int v1), none, some (.int v3), some (.int v4), some (.long v5), none, some (.int v7), none, none, none] [] shp D (aQi shp K) := by
    intro v1 v3 v4 v5 v7 D h
    unfold J_X12_prize_58 at h
    refine Ok.lp (P := fun s => AW G (aRm 6 0 0) M_X12_prize fr 0 0 58 [some (.ref 88), some (.int v1), none, some (.int v3), some (.int v4), some (.long (s.1)), none, some (.int (s.2.1)), none, none, none] [] shp s.2.2 (aQi shp K)) (fun s Kb58 hL58 hR58 h => ?_) (v5, v7, D) (Ok.bind h)
    obtain ⟨v5, v7, D⟩ := s
    replace h : Ok (B_X12_prize_58 v1 v3 v4 v5 v7 D) Kb58 := h
    unfold B_X12_prize_58 at h
    refine aw_iload (n := 60) (i := 7) dX12_prize_58 rfl rfl ?_
    refine aw_aload_n (n := 61) (i := 0) dX12_prize_60 rfl rfl rfl ?_
    refine aw_getR (n := 64) (j := 3) (r := 91) hG.1 fl_RX12_27 (sF_88 hS) rfl dX12_prize_61 rfl ?_
    refine aw_iconst (n := 65) (v := 3) dX12_prize_64 rfl (by decide) ?_
    obtain ⟨g_19, h⟩ := Ok.gd h
    refine aw_iaload (n := 66) hG.1 (sF_91 hS) (aIn_in g_19) dX12_prize_65 rfl ?_
    refine aw_icmp_ge (n := 69) (tgt := 92) dX12_prize_66 rfl (by decide) (fun c => ?_) (fun c => ?_)
    · replace h := Ok.ift h c
      exact aw_le' (hJ_92 v1 v3 v4 v5 D (hR58 (v5, D) (Ok.dn h :))) ⟨rfl, ⟨rfl, ⟨rfl, ⟨rfl, ⟨rfl, trivial⟩⟩⟩⟩⟩
    · replace h := Ok.iff h c
      refine aw_lload (n := 71) (i := 5) dX12_prize_69 rfl rfl ?_
      refine aw_iconst (n := 72) (v := 0) dX12_prize_71 rfl (by decide) ?_
      refine aw_aload_n (n := 73) (i := 0) dX12_prize_72 rfl rfl rfl ?_
      refine aw_getR (n := 76) (j := 38) (r := 112) hG.1 fl_RX12_97 (sF_88 hS) rfl dX12_prize_73 rfl ?_
      refine aw_iload (n := 78) (i := 7) dX12_prize_76 rfl rfl ?_
      obtain ⟨g_20, h⟩ := Ok.gd h
      refine aw_iaload (n := 79) hG.1 (sF_112 hS) (aIn_in g_20) dX12_prize_78 rfl ?_
      refine aw_max (M := M_X12_prize) (n := 82) lm_RX12_326 mm_max.1 mm_max.2.1 mm_max.2.2 (by decide) (Nat.le_of_ble_eq_true rfl) (by decide) (by decide) dX12_prize_79 rfl ?_
      refine aw_i2l (n := 83) dX12_prize_82 rfl ?_
      refine aw_ladd (n := 84) dX12_prize_83 rfl ?_
      obtain ⟨v5_21, e_v5_21, h⟩ := Ok.let_ h
      refine aw_lstore (n := 86) (i := 5) (al' := [some (.ref 88), some (.int v1), none, some (.int v3), some (.int v4), some (.long v5_21), none, some (.int v7), none, none, none]) dX12_prize_84 rfl e_v5_21 (by decide) rfl ?_
      obtain ⟨v7_22, e_v7_22, h⟩ := Ok.let_ h
      refine aw_iinc (n := 89) (al' := [some (.ref 88), some (.int v1), none, some (.int v3), some (.int v4), some (.long v5_21), none, some (.int v7_22), none, none, none]) dX12_prize_86 rfl rfl e_v7_22 (by decide) rfl ?_
      refine aw_goto (tgt := 58) dX12_prize_89 (by decide) ?_
      exact aw_le' (hL58 (v5_21, v7_22, D) (Ok.dn h :)) ⟨rfl, ⟨rfl, ⟨rfl, ⟨rfl, ⟨rfl, ⟨rfl, trivial⟩⟩⟩⟩⟩⟩
  refine aw_aload_n (n := 1) (i := 0) dX12_prize_0 rfl rfl rfl ?_
  refine aw_iconst (n := 2) (v := 0) dX12_prize_1 rfl (by decide) ?_
  obtain ⟨D_1, e_D_1, h⟩ := Ok.let_ h
  refine aw_putI (n := 5) (j := 2) hG.1 fl_RX12_157 (sF_88 hS) rfl e_D_1 dX12_prize_2 rfl ?_
  refine aw_aload_n (n := 6) (i := 0) dX12_prize_5 rfl rfl rfl ?_
  refine aw_iload_n (n := 7) (i := 1) dX12_prize_6 rfl rfl rfl ?_
  refine aw_cVi (M := M_X12_prize) (n := 10) (As := [.int v1]) (rest := []) hG.1 lk_RX12_343 rfl rfl (sF_88 hS) (c_X12_isGarden hG hS (h := Ok.bi h)) (by decide) (Nat.le_of_ble_eq_true rfl) (by decide) (by decide) dX12_prize_7 rfl (fun y_2 D_3 h => ?_)
  refine aw_if_eq (n := 13) (tgt := 22) dX12_prize_10 rfl (by decide) (fun c => ?_) (fun c => ?_)
  · replace h := Ok.ift h c
    refine aw_aload_n (n := 23) (i := 0) dX12_prize_22 rfl rfl rfl ?_
    refine aw_iconst (n := 24) (v := 1) dX12_prize_23 rfl (by decide) ?_
    refine aw_cVi (M := M_X12_prize) (n := 27) (As := [.int 1]) (rest := []) hG.1 lk_RX12_290 rfl rfl (sF_88 hS) (c_X12_fail hG hS (h := Ok.bi h)) (by decide) (Nat.le_of_ble_eq_true rfl) (by decide) (by decide) dX12_prize_24 rfl (fun y_4 D_5 h => ?_)
    exact aw_iret rfl (by decide) (by decide) dX12_prize_27 ⟨_, rfl, rfl, (Ok.dn h :)⟩
  · replace h := Ok.iff h c
    refine aw_iload_n (n := 14) (i := 2) dX12_prize_13 rfl rfl rfl ?_
    refine aw_iconst (n := 15) (v := 0) dX12_prize_14 rfl (by decide) ?_
    refine aw_iconst (n := 16) (v := 4) dX12_prize_15 rfl (by decide) ?_
    refine aw_cSi (M := M_X12_prize) (n := 19) (As := [.int v2, .int 0, .int 4]) (rest := []) lk_RX12_160 rfl rfl (c_X12_isIn hG hS (h := Ok.bi h)) (by decide) (Nat.le_of_ble_eq_true rfl) (by decide) (by decide) dX12_prize_16 rfl (fun y_6 D_7 h => ?_)
    refine aw_if_ne (n := 22) (tgt := 28) dX12_prize_19 rfl (by decide) (fun c => ?_) (fun c => ?_)
    · replace h := Ok.ift h c
      refine aw_iload_n (n := 29) (i := 3) dX12_prize_28 rfl rfl rfl ?_
      refine aw_iconst (n := 30) (v := 0) dX12_prize_29 rfl (by decide) ?_
      refine aw_sipush (n := 33) (v := 9999) dX12_prize_30 rfl (by decide) ?_
      refine aw_cSi (M := M_X12_prize) (n := 36) (As := [.int v3, .int 0, .int 9999]) (rest := []) lk_RX12_160 rfl rfl (c_X12_isIn hG hS (h := Ok.bi h)) (by decide) (Nat.le_of_ble_eq_true rfl) (by decide) (by decide) dX12_prize_33 rfl (fun y_8 D_9 h => ?_)
      refine aw_if_ne (n := 39) (tgt := 45) dX12_prize_36 rfl (by decide) (fun c => ?_) (fun c => ?_)
      · replace h := Ok.ift h c
        refine aw_aload_n (n := 46) (i := 0) dX12_prize_45 rfl rfl rfl ?_
        refine aw_iload_n (n := 47) (i := 2) dX12_prize_46 rfl rfl rfl ?_
        refine aw_cVi (M := M_X12_prize) (n := 50) (As := [.int v2]) (rest := []) hG.1 lk_RX12_356 rfl rfl (sF_88 hS) (c_X12_winnerBy hG hS (h := Ok.bi h)) (by decide) (Nat.le_of_ble_eq_true rfl) (by decide) (by decide) dX12_prize_47 rfl (fun y_10 D_11 h => ?_)
        refine aw_istore (n := 52) (i := 4) (al' := [some (.ref 88), some (.int v1), some (.int v2), some (.int v3), some (.int y_10), none, none, none, none, none, none]) dX12_prize_50 rfl rfl (by decide) rfl ?_
        refine aw_lconst (n := 53) (v := 0) dX12_prize_52 rfl (by decide) ?_
        refine aw_lstore (n := 55) (i := 5) (al' := [some (.ref 88), some (.int v1), some (.int v2), some (.int v3), some (.int y_10), some (.long 0), none, none, none, none, none]) dX12_prize_53 rfl rfl (by decide) rfl ?_
        refine aw_iconst (n := 56) (v := 0) dX12_prize_55 rfl (by decide) ?_
        refine aw_istore (n := 58) (i := 7) (al' := [some (.ref 88), some (.int v1), some (.int v2), some (.int v3), some (.int y_10), some (.long 0), none, some (.int 0), none, none, none]) dX12_prize_56 rfl rfl (by decide) rfl ?_
        exact aw_le' (hJ_58 v1 v3 y_10 0 0 D_11 h) ⟨rfl, ⟨rfl, ⟨rfl, ⟨rfl, ⟨rfl, ⟨rfl, trivial⟩⟩⟩⟩⟩⟩
      · replace h := Ok.iffn h c
        refine aw_aload_n (n := 40) (i := 0) dX12_prize_39 rfl rfl rfl ?_
        refine aw_iconst (n := 41) (v := 2) dX12_prize_40 rfl (by decide) ?_
        refine aw_cVi (M := M_X12_prize) (n := 44) (As := [.int 2]) (rest := []) hG.1 lk_RX12_290 rfl rfl (sF_88 hS) (c_X12_fail hG hS (h := Ok.bi h)) (by decide) (Nat.le_of_ble_eq_true rfl) (by decide) (by decide) dX12_prize_41 rfl (fun y_23 D_24 h => ?_)
        exact aw_iret rfl (by decide) (by decide) dX12_prize_44 ⟨_, rfl, rfl, (Ok.dn h :)⟩
    · replace h := Ok.iffn h c
      refine aw_aload_n (n := 23) (i := 0) dX12_prize_22 rfl rfl rfl ?_
      refine aw_iconst (n := 24) (v := 1) dX12_prize_23 rfl (by decide) ?_
      refine aw_cVi (M := M_X12_prize) (n := 27) (As := [.int 1]) (rest := []) hG.1 lk_RX12_290 rfl rfl (sF_88 hS) (c_X12_fail hG hS (h := Ok.bi h)) (by decide) (Nat.le_of_ble_eq_true rfl) (by decide) (by decide) dX12_prize_24 rfl (fun y_25 D_26 h => ?_)
      exact aw_iret rfl (by decide) (by decide) dX12_prize_27 ⟨_, rfl, rfl, (Ok.dn h :)⟩
theorem dX12_allWeights_0 : decode cX12_allWeights 0 = .ok (.iconst 0, 1) := by decide +kernel
theorem dX12_allWeights_1 : decode cX12_allWeights 1 = .ok (.istore_n 1, 1) := by decide +kernel
theorem dX12_allWeights_2 : decode cX12_allWeights 2 = .ok (.iconst 0, 1) := by decide +kernel
theorem dX12_allWeights_3 : decode cX12_allWeights 3 = .ok (.istore_n 2, 1) := by decide +kernel
theorem dX12_allWeights_4 : decode cX12_allWeights 4 = .ok (.iload_n 2, 1) := by decide +kernel
theorem dX12_allWeights_5 : decode cX12_allWeights 5 = .ok (.iconst 5, 1) := by decide +kernel
theorem dX12_allWeights_6 : decode cX12_allWeights 6 = .ok (.if_icmp .ge 21, 3) := by decide +kernel
theorem dX12_allWeights_9 : decode cX12_allWeights 9 = .ok (.iload_n 1, 1) := by decide +kernel
theorem dX12_allWeights_10 : decode cX12_allWeights 10 = .ok (.aload_n 0, 1) := by decide +kernel
theorem dX12_allWeights_11 : decode cX12_allWeights 11 = .ok (.getfield 27, 3) := by decide +kernel
theorem dX12_allWeights_14 : decode cX12_allWeights 14 = .ok (.bipush 10, 2) := by decide +kernel
theorem dX12_allWeights_16 : decode cX12_allWeights 16 = .ok (.iload_n 2, 1) := by decide +kernel
theorem dX12_allWeights_17 : decode cX12_allWeights 17 = .ok (.iadd, 1) := by decide +kernel
theorem dX12_allWeights_18 : decode cX12_allWeights 18 = .ok (.iaload, 1) := by decide +kernel
theorem dX12_allWeights_19 : decode cX12_allWeights 19 = .ok (.iadd, 1) := by decide +kernel
theorem dX12_allWeights_20 : decode cX12_allWeights 20 = .ok (.istore_n 1, 1) := by decide +kernel
theorem dX12_allWeights_21 : decode cX12_allWeights 21 = .ok (.iinc 2 1, 3) := by decide +kernel
theorem dX12_allWeights_24 : decode cX12_allWeights 24 = .ok (.goto (-20), 3) := by decide +kernel
theorem dX12_allWeights_27 : decode cX12_allWeights 27 = .ok (.iload_n 1, 1) := by decide +kernel
theorem dX12_allWeights_28 : decode cX12_allWeights 28 = .ok (.ireturn, 1) := by decide +kernel
def J_X12_allWeights_27 (v1 : Int32) (D : aD) : Option (Int32 × aD) :=
  some (v1, D)
def B_X12_allWeights_4 (v1 : Int32) (v2 : Int32) (D : aD) : Option ((Int32 × Int32 × aD) ⊕ ((Int32 × aD))) :=
  if 5 ≤ v2 then (some (.inr (v1, D))) else (aGd (aIn (10 + v2) 32) (aLet (v1 + (gI D 91 (10 + v2).toNatClampNeg)) (fun v1_2 => aLet (v2 + 1) (fun v2_3 => some (.inl (v1_2, v2_3, D))))))
def J_X12_allWeights_4 (v1 : Int32) (v2 : Int32) (D : aD) : Option (Int32 × aD) :=
  (aLp (fun s => B_X12_allWeights_4 s.1 s.2.1 s.2.2) (v1, v2, D)).bind (fun r => J_X12_allWeights_27 (r.1) r.2)
def f_X12_allWeights (D : aD) : Option (Int32 × aD) :=
  J_X12_allWeights_4 0 0 D
set_option maxRecDepth 100000 in
set_option maxHeartbeats 800000 in
theorem c_X12_allWeights {G : aG} (hG : gOK G) {shp : List aSh} (hS : aShp shp) {fr : Option Nat} {D : aD} {K : Int32 → aD → Prop} (h : Ok2 (f_X12_allWeights D) K) : AC G (aRm 1 0 0) M_X12_allWeights [.ref 88] fr shp D (aQi shp K) := by
  replace h := Ok2.ok h
  unfold f_X12_allWeights at h
  refine AC.of (al := [some (.ref 88), none, none]) (r := 2) (by decide) (Nat.le_of_ble_eq_true rfl) rfl ?_
  have hJ_27 : ∀ (v1 : Int32) (D : aD), Ok (J_X12_allWeights_27 v1 D) (fun r => K r.1 r.2) → AW G (aRm 1 0 0) M_X12_allWeights fr 0 0 27 [none, some (.int v1), none] [] shp D (aQi shp K) := by
    intro v1 D h
    unfold J_X12_allWeights_27 at h
    refine aw_iload_n (n := 28) (i := 1) dX12_allWeights_27 rfl rfl rfl ?_
    exact aw_iret rfl (by decide) (by decide) dX12_allWeights_28 ⟨_, rfl, rfl, (Ok.dn h :)⟩
  have hJ_4 : ∀ (v1 : Int32) (v2 : Int32) (D : aD), Ok (J_X12_allWeights_4 v1 v2 D) (fun r => K r.1 r.2) → AW G (aRm 1 0 0) M_X12_allWeights fr 0 0 4 [some (.ref 88), some (.int v1), some (.int v2)] [] shp D (aQi shp K) := by
    intro v1 v2 D h
    unfold J_X12_allWeights_4 at h
    refine Ok.lp (P := fun s => AW G (aRm 1 0 0) M_X12_allWeights fr 0 0 4 [some (.ref 88), some (.int (s.1)), some (.int (s.2.1))] [] shp s.2.2 (aQi shp K)) (fun s Kb4 hL4 hR4 h => ?_) (v1, v2, D) (Ok.bind h)
    obtain ⟨v1, v2, D⟩ := s
    replace h : Ok (B_X12_allWeights_4 v1 v2 D) Kb4 := h
    unfold B_X12_allWeights_4 at h
    refine aw_iload_n (n := 5) (i := 2) dX12_allWeights_4 rfl rfl rfl ?_
    refine aw_iconst (n := 6) (v := 5) dX12_allWeights_5 rfl (by decide) ?_
    refine aw_icmp_ge (n := 9) (tgt := 27) dX12_allWeights_6 rfl (by decide) (fun c => ?_) (fun c => ?_)
    · replace h := Ok.ift h c
      exact aw_le' (hJ_27 v1 D (hR4 (v1, D) (Ok.dn h :))) ⟨rfl, trivial⟩
    · replace h := Ok.iff h c
      refine aw_iload_n (n := 10) (i := 1) dX12_allWeights_9 rfl rfl rfl ?_
      refine aw_aload_n (n := 11) (i := 0) dX12_allWeights_10 rfl rfl rfl ?_
      refine aw_getR (n := 14) (j := 3) (r := 91) hG.1 fl_RX12_27 (sF_88 hS) rfl dX12_allWeights_11 rfl ?_
      refine aw_bipush (n := 16) (v := 10) dX12_allWeights_14 rfl (by decide) ?_
      refine aw_iload_n (n := 17) (i := 2) dX12_allWeights_16 rfl rfl rfl ?_
      refine aw_iadd (n := 18) dX12_allWeights_17 rfl ?_
      obtain ⟨g_1, h⟩ := Ok.gd h
      refine aw_iaload (n := 19) hG.1 (sF_91 hS) (aIn_in g_1) dX12_allWeights_18 rfl ?_
      refine aw_iadd (n := 20) dX12_allWeights_19 rfl ?_
      obtain ⟨v1_2, e_v1_2, h⟩ := Ok.let_ h
      refine aw_istore_n (n := 21) (i := 1) (al' := [some (.ref 88), some (.int v1_2), some (.int v2)]) dX12_allWeights_20 rfl rfl e_v1_2 (by decide) rfl ?_
      obtain ⟨v2_3, e_v2_3, h⟩ := Ok.let_ h
      refine aw_iinc (n := 24) (al' := [some (.ref 88), some (.int v1_2), some (.int v2_3)]) dX12_allWeights_21 rfl rfl e_v2_3 (by decide) rfl ?_
      refine aw_goto (tgt := 4) dX12_allWeights_24 (by decide) ?_
      exact aw_le' (hL4 (v1_2, v2_3, D) (Ok.dn h :)) ⟨rfl, ⟨rfl, ⟨rfl, trivial⟩⟩⟩
  refine aw_iconst (n := 1) (v := 0) dX12_allWeights_0 rfl (by decide) ?_
  refine aw_istore_n (n := 2) (i := 1) (al' := [some (.ref 88), some (.int 0), none]) dX12_allWeights_1 rfl rfl rfl (by decide) rfl ?_
  refine aw_iconst (n := 3) (v := 0) dX12_allWeights_2 rfl (by decide) ?_
  refine aw_istore_n (n := 4) (i := 2) (al' := [some (.ref 88), some (.int 0), some (.int 0)]) dX12_allWeights_3 rfl rfl rfl (by decide) rfl ?_
  exact aw_le' (hJ_4 0 0 D h) ⟨rfl, ⟨rfl, ⟨rfl, trivial⟩⟩⟩
theorem dX12_weightsOf_0 : decode cX12_weightsOf 0 = .ok (.iconst 0, 1) := by decide +kernel
theorem dX12_weightsOf_1 : decode cX12_weightsOf 1 = .ok (.istore_n 2, 1) := by decide +kernel
theorem dX12_weightsOf_2 : decode cX12_weightsOf 2 = .ok (.iconst 0, 1) := by decide +kernel
theorem dX12_weightsOf_3 : decode cX12_weightsOf 3 = .ok (.istore_n 3, 1) := by decide +kernel
theorem dX12_weightsOf_4 : decode cX12_weightsOf 4 = .ok (.iload_n 3, 1) := by decide +kernel
theorem dX12_weightsOf_5 : decode cX12_weightsOf 5 = .ok (.iconst 5, 1) := by decide +kernel
theorem dX12_weightsOf_6 : decode cX12_weightsOf 6 = .ok (.if_icmp .ge 46, 3) := by decide +kernel
theorem dX12_weightsOf_9 : decode cX12_weightsOf 9 = .ok (.iload_n 2, 1) := by decide +kernel
theorem dX12_weightsOf_10 : decode cX12_weightsOf 10 = .ok (.aload_n 0, 1) := by decide +kernel
theorem dX12_weightsOf_11 : decode cX12_weightsOf 11 = .ok (.getfield 27, 3) := by decide +kernel
theorem dX12_weightsOf_14 : decode cX12_weightsOf 14 = .ok (.bipush 10, 2) := by decide +kernel
theorem dX12_weightsOf_16 : decode cX12_weightsOf 16 = .ok (.iload_n 3, 1) := by decide +kernel
theorem dX12_weightsOf_17 : decode cX12_weightsOf 17 = .ok (.iadd, 1) := by decide +kernel
theorem dX12_weightsOf_18 : decode cX12_weightsOf 18 = .ok (.iaload, 1) := by decide +kernel
theorem dX12_weightsOf_19 : decode cX12_weightsOf 19 = .ok (.ifCond .le 24, 3) := by decide +kernel
theorem dX12_weightsOf_22 : decode cX12_weightsOf 22 = .ok (.aload_n 0, 1) := by decide +kernel
theorem dX12_weightsOf_23 : decode cX12_weightsOf 23 = .ok (.iload_n 3, 1) := by decide +kernel
theorem dX12_weightsOf_24 : decode cX12_weightsOf 24 = .ok (.invokevirtual 356, 3) := by decide +kernel
theorem dX12_weightsOf_27 : decode cX12_weightsOf 27 = .ok (.iload_n 1, 1) := by decide +kernel
theorem dX12_weightsOf_28 : decode cX12_weightsOf 28 = .ok (.if_icmp .ne 15, 3) := by decide +kernel
theorem dX12_weightsOf_31 : decode cX12_weightsOf 31 = .ok (.aload_n 0, 1) := by decide +kernel
theorem dX12_weightsOf_32 : decode cX12_weightsOf 32 = .ok (.getfield 27, 3) := by decide +kernel
theorem dX12_weightsOf_35 : decode cX12_weightsOf 35 = .ok (.bipush 10, 2) := by decide +kernel
theorem dX12_weightsOf_37 : decode cX12_weightsOf 37 = .ok (.iload_n 3, 1) := by decide +kernel
theorem dX12_weightsOf_38 : decode cX12_weightsOf 38 = .ok (.iadd, 1) := by decide +kernel
theorem dX12_weightsOf_39 : decode cX12_weightsOf 39 = .ok (.iaload, 1) := by decide +kernel
theorem dX12_weightsOf_40 : decode cX12_weightsOf 40 = .ok (.goto 4, 3) := by decide +kernel
theorem dX12_weightsOf_43 : decode cX12_weightsOf 43 = .ok (.iconst 0, 1) := by decide +kernel
theorem dX12_weightsOf_44 : decode cX12_weightsOf 44 = .ok (.iadd, 1) := by decide +kernel
theorem dX12_weightsOf_45 : decode cX12_weightsOf 45 = .ok (.istore_n 2, 1) := by decide +kernel
theorem dX12_weightsOf_46 : decode cX12_weightsOf 46 = .ok (.iinc 3 1, 3) := by decide +kernel
theorem dX12_weightsOf_49 : decode cX12_weightsOf 49 = .ok (.goto (-45), 3) := by decide +kernel
theorem dX12_weightsOf_52 : decode cX12_weightsOf 52 = .ok (.iload_n 2, 1) := by decide +kernel
theorem dX12_weightsOf_53 : decode cX12_weightsOf 53 = .ok (.ireturn, 1) := by decide +kernel
def J_X12_weightsOf_52 (v2 : Int32) (D : aD) : Option (Int32 × aD) :=
  some (v2, D)
def B_X12_weightsOf_4 (v1 : Int32) (v2 : Int32) (v3 : Int32) (D : aD) : Option ((Int32 × Int32 × aD) ⊕ ((Int32 × aD))) :=
  if 5 ≤ v3 then (some (.inr (v2, D))) else (aGd (aIn (10 + v3) 32) (if gI D 91 (10 + v3).toNatClampNeg ≤ 0 then (aLet (v2 + 0) (fun v2_2 => aLet (v3 + 1) (fun v3_3 => some (.inl (v2_2, v3_3, D))))) else (aBi (f_X12_winnerBy v3 D) (fun y_4 D_5 => if y_4 ≠ v1 then (aLet (v2 + 0) (fun v2_6 => aLet (v3 + 1) (fun v3_7 => some (.inl (v2_6, v3_7, D_5))))) else (aGd (aIn (10 + v3) 32) (aLet (v2 + (gI D_5 91 (10 + v3).toNatClampNeg)) (fun v2_9 => aLet (v3 + 1) (fun v3_10 => some (.inl (v2_9, v3_10, D_5))))))))))
def J_X12_weightsOf_4 (v1 : Int32) (v2 : Int32) (v3 : Int32) (D : aD) : Option (Int32 × aD) :=
  (aLp (fun s => B_X12_weightsOf_4 v1 s.1 s.2.1 s.2.2) (v2, v3, D)).bind (fun r => J_X12_weightsOf_52 (r.1) r.2)
def f_X12_weightsOf (v1 : Int32) (D : aD) : Option (Int32 × aD) :=
  J_X12_weightsOf_4 v1 0 0 D
set_option maxRecDepth 100000 in
set_option maxHeartbeats 800000 in
theorem c_X12_weightsOf {G : aG} (hG : gOK G) {shp : List aSh} (hS : aShp shp) {fr : Option Nat} {v1 : Int32} {D : aD} {K : Int32 → aD → Prop} (h : Ok2 (f_X12_weightsOf v1 D) K) : AC G (aRm 6 0 0) M_X12_weightsOf [.ref 88, .int v1] fr shp D (aQi shp K) := by
  replace h := Ok2.ok h
  unfold f_X12_weightsOf at h
  refine AC.of (al := [some (.ref 88), some (.int v1), none, none]) (r := 2) (by decide) (Nat.le_of_ble_eq_true rfl) rfl ?_
  have hJ_52 : ∀ (v2 : Int32) (D : aD), Ok (J_X12_weightsOf_52 v2 D) (fun r => K r.1 r.2) → AW G (aRm 6 0 0) M_X12_weightsOf fr 0 0 52 [none, none, some (.int v2), none] [] shp D (aQi shp K) := by
    intro v2 D h
    unfold J_X12_weightsOf_52 at h
    refine aw_iload_n (n := 53) (i := 2) dX12_weightsOf_52 rfl rfl rfl ?_
    exact aw_iret rfl (by decide) (by decide) dX12_weightsOf_53 ⟨_, rfl, rfl, (Ok.dn h :)⟩
  have hJ_4 : ∀ (v1 : Int32) (v2 : Int32) (v3 : Int32) (D : aD), Ok (J_X12_weightsOf_4 v1 v2 v3 D) (fun r => K r.1 r.2) → AW G (aRm 6 0 0) M_X12_weightsOf fr 0 0 4 [some (.ref 88), some (.int v1), some (.int v2), some (.int v3)] [] shp D (aQi shp K) := by
    intro v1 v2 v3 D h
    unfold J_X12_weightsOf_4 at h
    refine Ok.lp (P := fun s => AW G (aRm 6 0 0) M_X12_weightsOf fr 0 0 4 [some (.ref 88), some (.int v1), some (.int (s.1)), some (.int (s.2.1))] [] shp s.2.2 (aQi shp K)) (fun s Kb4 hL4 hR4 h => ?_) (v2, v3, D) (Ok.bind h)
    obtain ⟨v2, v3, D⟩ := s
    replace h : Ok (B_X12_weightsOf_4 v1 v2 v3 D) Kb4 := h
    unfold B_X12_weightsOf_4 at h
    refine aw_iload_n (n := 5) (i := 3) dX12_weightsOf_4 rfl rfl rfl ?_
    refine aw_iconst (n := 6) (v := 5) dX12_weightsOf_5 rfl (by decide) ?_
    refine aw_icmp_ge (n := 9) (tgt := 52) dX12_weightsOf_6 rfl (by decide) (fun c => ?_) (fun c => ?_)
    · replace h := Ok.ift h c
      exact aw_le' (hJ_52 v2 D (hR4 (v2, D) (Ok.dn h :))) ⟨rfl, trivial⟩
    · replace h := Ok.iff h c
      refine aw_iload_n (n := 10) (i := 2) dX12_weightsOf_9 rfl rfl rfl ?_
      refine aw_aload_n (n := 11) (i := 0) dX12_weightsOf_10 rfl rfl rfl ?_
      refine aw_getR (n := 14) (j := 3) (r := 91) hG.1 fl_RX12_27 (sF_88 hS) rfl dX12_weightsOf_11 rfl ?_
      refine aw_bipush (n := 16) (v := 10) dX12_weightsOf_14 rfl (by decide) ?_
      refine aw_iload_n (n := 17) (i := 3) dX12_weightsOf_16 rfl rfl rfl ?_
      refine aw_iadd (n := 18) dX12_weightsOf_17 rfl ?_
      obtain ⟨g_1, h⟩ := Ok.gd h
      refine aw_iaload (n := 19) hG.1 (sF_91 hS) (aIn_in g_1) dX12_weightsOf_18 rfl ?_
      refine aw_if_le (n := 22) (tgt := 43) dX12_weightsOf_19 rfl (by decide) (fun c => ?_) (fun c => ?_)
      · replace h := Ok.ift h c
        refine aw_iconst (n := 44) (v := 0) dX12_weightsOf_43 rfl (by decide) ?_
        refine aw_iadd (n := 45) dX12_weightsOf_44 rfl ?_
        obtain ⟨v2_2, e_v2_2, h⟩ := Ok.let_ h
        refine aw_istore_n (n := 46) (i := 2) (al' := [some (.ref 88), some (.int v1), some (.int v2_2), some (.int v3)]) dX12_weightsOf_45 rfl rfl e_v2_2 (by decide) rfl ?_
        obtain ⟨v3_3, e_v3_3, h⟩ := Ok.let_ h
        refine aw_iinc (n := 49) (al' := [some (.ref 88), some (.int v1), some (.int v2_2), some (.int v3_3)]) dX12_weightsOf_46 rfl rfl e_v3_3 (by decide) rfl ?_
        refine aw_goto (tgt := 4) dX12_weightsOf_49 (by decide) ?_
        exact aw_le' (hL4 (v2_2, v3_3, D) (Ok.dn h :)) ⟨rfl, ⟨rfl, ⟨rfl, ⟨rfl, trivial⟩⟩⟩⟩
      · replace h := Ok.iff h c
        refine aw_aload_n (n := 23) (i := 0) dX12_weightsOf_22 rfl rfl rfl ?_
        refine aw_iload_n (n := 24) (i := 3) dX12_weightsOf_23 rfl rfl rfl ?_
        refine aw_cVi (M := M_X12_weightsOf) (n := 27) (As := [.int v3]) (rest := [.int v2]) hG.1 lk_RX12_356 rfl rfl (sF_88 hS) (c_X12_winnerBy hG hS (h := Ok.bi h)) (by decide) (Nat.le_of_ble_eq_true rfl) (by decide) (by decide) dX12_weightsOf_24 rfl (fun y_4 D_5 h => ?_)
        refine aw_iload_n (n := 28) (i := 1) dX12_weightsOf_27 rfl rfl rfl ?_
        refine aw_icmp_ne (n := 31) (tgt := 43) dX12_weightsOf_28 rfl (by decide) (fun c => ?_) (fun c => ?_)
        · replace h := Ok.ift h c
          refine aw_iconst (n := 44) (v := 0) dX12_weightsOf_43 rfl (by decide) ?_
          refine aw_iadd (n := 45) dX12_weightsOf_44 rfl ?_
          obtain ⟨v2_6, e_v2_6, h⟩ := Ok.let_ h
          refine aw_istore_n (n := 46) (i := 2) (al' := [some (.ref 88), some (.int v1), some (.int v2_6), some (.int v3)]) dX12_weightsOf_45 rfl rfl e_v2_6 (by decide) rfl ?_
          obtain ⟨v3_7, e_v3_7, h⟩ := Ok.let_ h
          refine aw_iinc (n := 49) (al' := [some (.ref 88), some (.int v1), some (.int v2_6), some (.int v3_7)]) dX12_weightsOf_46 rfl rfl e_v3_7 (by decide) rfl ?_
          refine aw_goto (tgt := 4) dX12_weightsOf_49 (by decide) ?_
          exact aw_le' (hL4 (v2_6, v3_7, D_5) (Ok.dn h :)) ⟨rfl, ⟨rfl, ⟨rfl, ⟨rfl, trivial⟩⟩⟩⟩
        · replace h := Ok.iffn h c
          refine aw_aload_n (n := 32) (i := 0) dX12_weightsOf_31 rfl rfl rfl ?_
          refine aw_getR (n := 35) (j := 3) (r := 91) hG.1 fl_RX12_27 (sF_88 hS) rfl dX12_weightsOf_32 rfl ?_
          refine aw_bipush (n := 37) (v := 10) dX12_weightsOf_35 rfl (by decide) ?_
          refine aw_iload_n (n := 38) (i := 3) dX12_weightsOf_37 rfl rfl rfl ?_
          refine aw_iadd (n := 39) dX12_weightsOf_38 rfl ?_
          obtain ⟨g_8, h⟩ := Ok.gd h
          refine aw_iaload (n := 40) hG.1 (sF_91 hS) (aIn_in g_8) dX12_weightsOf_39 rfl ?_
          refine aw_goto (tgt := 44) dX12_weightsOf_40 (by decide) ?_
          refine aw_iadd (n := 45) dX12_weightsOf_44 rfl ?_
          obtain ⟨v2_9, e_v2_9, h⟩ := Ok.let_ h
          refine aw_istore_n (n := 46) (i := 2) (al' := [some (.ref 88), some (.int v1), some (.int v2_9), some (.int v3)]) dX12_weightsOf_45 rfl rfl e_v2_9 (by decide) rfl ?_
          obtain ⟨v3_10, e_v3_10, h⟩ := Ok.let_ h
          refine aw_iinc (n := 49) (al' := [some (.ref 88), some (.int v1), some (.int v2_9), some (.int v3_10)]) dX12_weightsOf_46 rfl rfl e_v3_10 (by decide) rfl ?_
          refine aw_goto (tgt := 4) dX12_weightsOf_49 (by decide) ?_
          exact aw_le' (hL4 (v2_9, v3_10, D_5) (Ok.dn h :)) ⟨rfl, ⟨rfl, ⟨rfl, ⟨rfl, trivial⟩⟩⟩⟩
  refine aw_iconst (n := 1) (v := 0) dX12_weightsOf_0 rfl (by decide) ?_
  refine aw_istore_n (n := 2) (i := 2) (al' := [some (.ref 88), some (.int v1), some (.int 0), none]) dX12_weightsOf_1 rfl rfl rfl (by decide) rfl ?_
  refine aw_iconst (n := 3) (v := 0) dX12_weightsOf_2 rfl (by decide) ?_
  refine aw_istore_n (n := 4) (i := 3) (al' := [some (.ref 88), some (.int v1), some (.int 0), some (.int 0)]) dX12_weightsOf_3 rfl rfl rfl (by decide) rfl ?_
  exact aw_le' (hJ_4 v1 0 0 D h) ⟨rfl, ⟨rfl, ⟨rfl, ⟨rfl, trivial⟩⟩⟩⟩
theorem dX12_common_0 : decode cX12_common 0 = .ok (.iload_n 0, 1) := by decide +kernel
theorem dX12_common_1 : decode cX12_common 1 = .ok (.istore_n 2, 1) := by decide +kernel
theorem dX12_common_2 : decode cX12_common 2 = .ok (.iload_n 1, 1) := by decide +kernel
theorem dX12_common_3 : decode cX12_common 3 = .ok (.istore_n 3, 1) := by decide +kernel
theorem dX12_common_4 : decode cX12_common 4 = .ok (.iload_n 3, 1) := by decide +kernel
theorem dX12_common_5 : decode cX12_common 5 = .ok (.ifCond .eq 16, 3) := by decide +kernel
theorem dX12_common_8 : decode cX12_common 8 = .ok (.iload_n 2, 1) := by decide +kernel
theorem dX12_common_9 : decode cX12_common 9 = .ok (.iload_n 3, 1) := by decide +kernel
theorem dX12_common_10 : decode cX12_common 10 = .ok (.irem, 1) := by decide +kernel
theorem dX12_common_11 : decode cX12_common 11 = .ok (.istore 4, 2) := by decide +kernel
theorem dX12_common_13 : decode cX12_common 13 = .ok (.iload_n 3, 1) := by decide +kernel
theorem dX12_common_14 : decode cX12_common 14 = .ok (.istore_n 2, 1) := by decide +kernel
theorem dX12_common_15 : decode cX12_common 15 = .ok (.iload 4, 2) := by decide +kernel
theorem dX12_common_17 : decode cX12_common 17 = .ok (.istore_n 3, 1) := by decide +kernel
theorem dX12_common_18 : decode cX12_common 18 = .ok (.goto (-14), 3) := by decide +kernel
theorem dX12_common_21 : decode cX12_common 21 = .ok (.iload_n 2, 1) := by decide +kernel
theorem dX12_common_22 : decode cX12_common 22 = .ok (.ireturn, 1) := by decide +kernel
def J_X12_common_21 (v2 : Int32) (D : aD) : Option (Int32 × aD) :=
  some (v2, D)
def B_X12_common_4 (v2 : Int32) (v3 : Int32) (D : aD) : Option ((Int32 × Int32 × aD) ⊕ ((Int32 × aD))) :=
  if v3 = 0 then (some (.inr (v2, D))) else (aGd (aNz v3) (aLet (v2 - v2 / v3 * v3) (fun v4_2 => some (.inl (v3, v4_2, D)))))
def J_X12_common_4 (v2 : Int32) (v3 : Int32) (D : aD) : Option (Int32 × aD) :=
  (aLp (fun s => B_X12_common_4 s.1 s.2.1 s.2.2) (v2, v3, D)).bind (fun r => J_X12_common_21 (r.1) r.2)
def f_X12_common (v0 : Int32) (v1 : Int32) (D : aD) : Option (Int32 × aD) :=
  J_X12_common_4 v0 v1 D
set_option maxRecDepth 100000 in
set_option maxHeartbeats 800000 in
theorem c_X12_common {G : aG} (hG : gOK G) {shp : List aSh} (hS : aShp shp) {fr : Option Nat} {v0 : Int32} {v1 : Int32} {D : aD} {K : Int32 → aD → Prop} (h : Ok2 (f_X12_common v0 v1 D) K) : AC G (aRm 1 0 0) M_X12_common [.int v0, .int v1] fr shp D (aQi shp K) := by
  replace h := Ok2.ok h
  unfold f_X12_common at h
  refine AC.of (al := [some (.int v0), some (.int v1), none, none, none]) (r := 3) (by decide) (Nat.le_of_ble_eq_true rfl) rfl ?_
  have hJ_21 : ∀ (v2 : Int32) (D : aD), Ok (J_X12_common_21 v2 D) (fun r => K r.1 r.2) → AW G (aRm 1 0 0) M_X12_common fr 0 0 21 [none, none, some (.int v2), none, none] [] shp D (aQi shp K) := by
    intro v2 D h
    unfold J_X12_common_21 at h
    refine aw_iload_n (n := 22) (i := 2) dX12_common_21 rfl rfl rfl ?_
    exact aw_iret rfl (by decide) (by decide) dX12_common_22 ⟨_, rfl, rfl, (Ok.dn h :)⟩
  have hJ_4 : ∀ (v2 : Int32) (v3 : Int32) (D : aD), Ok (J_X12_common_4 v2 v3 D) (fun r => K r.1 r.2) → AW G (aRm 1 0 0) M_X12_common fr 0 0 4 [none, none, some (.int v2), some (.int v3), none] [] shp D (aQi shp K) := by
    intro v2 v3 D h
    unfold J_X12_common_4 at h
    refine Ok.lp (P := fun s => AW G (aRm 1 0 0) M_X12_common fr 0 0 4 [none, none, some (.int (s.1)), some (.int (s.2.1)), none] [] shp s.2.2 (aQi shp K)) (fun s Kb4 hL4 hR4 h => ?_) (v2, v3, D) (Ok.bind h)
    obtain ⟨v2, v3, D⟩ := s
    replace h : Ok (B_X12_common_4 v2 v3 D) Kb4 := h
    unfold B_X12_common_4 at h
    refine aw_iload_n (n := 5) (i := 3) dX12_common_4 rfl rfl rfl ?_
    refine aw_if_eq (n := 8) (tgt := 21) dX12_common_5 rfl (by decide) (fun c => ?_) (fun c => ?_)
    · replace h := Ok.ift h c
      exact aw_le' (hJ_21 v2 D (hR4 (v2, D) (Ok.dn h :))) ⟨rfl, trivial⟩
    · replace h := Ok.iff h c
      refine aw_iload_n (n := 9) (i := 2) dX12_common_8 rfl rfl rfl ?_
      refine aw_iload_n (n := 10) (i := 3) dX12_common_9 rfl rfl rfl ?_
      obtain ⟨g_1, h⟩ := Ok.gd h
      refine aw_irem (n := 11) dX12_common_10 rfl (aNz_ne g_1) ?_
      obtain ⟨v4_2, e_v4_2, h⟩ := Ok.let_ h
      refine aw_istore (n := 13) (i := 4) (al' := [none, none, some (.int v2), some (.int v3), some (.int v4_2)]) dX12_common_11 rfl e_v4_2 (by decide) rfl ?_
      refine aw_iload_n (n := 14) (i := 3) dX12_common_13 rfl rfl rfl ?_
      refine aw_istore_n (n := 15) (i := 2) (al' := [none, none, some (.int v3), some (.int v3), some (.int v4_2)]) dX12_common_14 rfl rfl rfl (by decide) rfl ?_
      refine aw_iload (n := 17) (i := 4) dX12_common_15 rfl rfl ?_
      refine aw_istore_n (n := 18) (i := 3) (al' := [none, none, some (.int v3), some (.int v4_2), some (.int v4_2)]) dX12_common_17 rfl rfl rfl (by decide) rfl ?_
      refine aw_goto (tgt := 4) dX12_common_18 (by decide) ?_
      exact aw_le' (hL4 (v3, v4_2, D) (Ok.dn h :)) ⟨rfl, ⟨rfl, trivial⟩⟩
  refine aw_iload_n (n := 1) (i := 0) dX12_common_0 rfl rfl rfl ?_
  refine aw_istore_n (n := 2) (i := 2) (al' := [some (.int v0), some (.int v1), some (.int v0), none, none]) dX12_common_1 rfl rfl rfl (by decide) rfl ?_
  refine aw_iload_n (n := 3) (i := 1) dX12_common_2 rfl rfl rfl ?_
  refine aw_istore_n (n := 4) (i := 3) (al' := [some (.int v0), some (.int v1), some (.int v0), some (.int v1), none]) dX12_common_3 rfl rfl rfl (by decide) rfl ?_
  exact aw_le' (hJ_4 v0 v1 D h) ⟨rfl, ⟨rfl, trivial⟩⟩
theorem dX12_odds_0 : decode cX12_odds 0 = .ok (.aload_n 0, 1) := by decide +kernel
theorem dX12_odds_1 : decode cX12_odds 1 = .ok (.iconst 0, 1) := by decide +kernel
theorem dX12_odds_2 : decode cX12_odds 2 = .ok (.putfield 157, 3) := by decide +kernel
theorem dX12_odds_5 : decode cX12_odds 5 = .ok (.aload_n 0, 1) := by decide +kernel
theorem dX12_odds_6 : decode cX12_odds 6 = .ok (.iload_n 1, 1) := by decide +kernel
theorem dX12_odds_7 : decode cX12_odds 7 = .ok (.invokevirtual 343, 3) := by decide +kernel
theorem dX12_odds_10 : decode cX12_odds 10 = .ok (.ifCond .eq 12, 3) := by decide +kernel
theorem dX12_odds_13 : decode cX12_odds 13 = .ok (.iload_n 2, 1) := by decide +kernel
theorem dX12_odds_14 : decode cX12_odds 14 = .ok (.ifCond .lt 8, 3) := by decide +kernel
theorem dX12_odds_17 : decode cX12_odds 17 = .ok (.iload_n 2, 1) := by decide +kernel
theorem dX12_odds_18 : decode cX12_odds 18 = .ok (.iconst 1, 1) := by decide +kernel
theorem dX12_odds_19 : decode cX12_odds 19 = .ok (.if_icmp .le 9, 3) := by decide +kernel
theorem dX12_odds_22 : decode cX12_odds 22 = .ok (.aload_n 0, 1) := by decide +kernel
theorem dX12_odds_23 : decode cX12_odds 23 = .ok (.iconst 1, 1) := by decide +kernel
theorem dX12_odds_24 : decode cX12_odds 24 = .ok (.invokevirtual 290, 3) := by decide +kernel
theorem dX12_odds_27 : decode cX12_odds 27 = .ok (.ireturn, 1) := by decide +kernel
theorem dX12_odds_28 : decode cX12_odds 28 = .ok (.aload_n 0, 1) := by decide +kernel
theorem dX12_odds_29 : decode cX12_odds 29 = .ok (.invokevirtual 359, 3) := by decide +kernel
theorem dX12_odds_32 : decode cX12_odds 32 = .ok (.istore_n 3, 1) := by decide +kernel
theorem dX12_odds_33 : decode cX12_odds 33 = .ok (.aload_n 0, 1) := by decide +kernel
theorem dX12_odds_34 : decode cX12_odds 34 = .ok (.iload_n 1, 1) := by decide +kernel
theorem dX12_odds_35 : decode cX12_odds 35 = .ok (.invokevirtual 362, 3) := by decide +kernel
theorem dX12_odds_38 : decode cX12_odds 38 = .ok (.istore 4, 2) := by decide +kernel
theorem dX12_odds_40 : decode cX12_odds 40 = .ok (.iload_n 3, 1) := by decide +kernel
theorem dX12_odds_41 : decode cX12_odds 41 = .ok (.ifCond .ne 7, 3) := by decide +kernel
theorem dX12_odds_44 : decode cX12_odds 44 = .ok (.iconst 1, 1) := by decide +kernel
theorem dX12_odds_45 : decode cX12_odds 45 = .ok (.goto 9, 3) := by decide +kernel
theorem dX12_odds_48 : decode cX12_odds 48 = .ok (.iload_n 3, 1) := by decide +kernel
theorem dX12_odds_49 : decode cX12_odds 49 = .ok (.iload 4, 2) := by decide +kernel
theorem dX12_odds_51 : decode cX12_odds 51 = .ok (.invokestatic 365, 3) := by decide +kernel
theorem dX12_odds_54 : decode cX12_odds 54 = .ok (.istore 5, 2) := by decide +kernel
theorem dX12_odds_56 : decode cX12_odds 56 = .ok (.iload_n 2, 1) := by decide +kernel
theorem dX12_odds_57 : decode cX12_odds 57 = .ok (.ifCond .ne 11, 3) := by decide +kernel
theorem dX12_odds_60 : decode cX12_odds 60 = .ok (.iload 4, 2) := by decide +kernel
theorem dX12_odds_62 : decode cX12_odds 62 = .ok (.iload 5, 2) := by decide +kernel
theorem dX12_odds_64 : decode cX12_odds 64 = .ok (.idiv, 1) := by decide +kernel
theorem dX12_odds_65 : decode cX12_odds 65 = .ok (.goto 15, 3) := by decide +kernel
theorem dX12_odds_68 : decode cX12_odds 68 = .ok (.iload_n 3, 1) := by decide +kernel
theorem dX12_odds_69 : decode cX12_odds 69 = .ok (.ifCond .ne 7, 3) := by decide +kernel
theorem dX12_odds_72 : decode cX12_odds 72 = .ok (.iconst 1, 1) := by decide +kernel
theorem dX12_odds_73 : decode cX12_odds 73 = .ok (.goto 7, 3) := by decide +kernel
theorem dX12_odds_76 : decode cX12_odds 76 = .ok (.iload_n 3, 1) := by decide +kernel
theorem dX12_odds_77 : decode cX12_odds 77 = .ok (.iload 5, 2) := by decide +kernel
theorem dX12_odds_79 : decode cX12_odds 79 = .ok (.idiv, 1) := by decide +kernel
theorem dX12_odds_80 : decode cX12_odds 80 = .ok (.ireturn, 1) := by decide +kernel
def J_X12_odds_54 (v2 : Int32) (v3 : Int32) (v4 : Int32) (t0 : Int32) (D : aD) : Option (Int32 × aD) :=
  if v2 ≠ 0 then (if v3 ≠ 0 then (aGd (aNz t0) (some (v3 / t0, D))) else (some (1, D))) else (aGd (aNz t0) (some (v4 / t0, D)))
def f_X12_odds (v1 : Int32) (v2 : Int32) (D : aD) : Option (Int32 × aD) :=
  aLet (pI D 88 2 0) (fun D_1 => aBi (f_X12_isGarden v1 D_1) (fun y_2 D_3 => if y_2 = 0 then (aBi (f_X12_fail 1 D_3) (fun y_4 D_5 => some (y_4, D_5))) else (if v2 < 0 then (aBi (f_X12_fail 1 D_3) (fun y_6 D_7 => some (y_6, D_7))) else (if v2 ≤ 1 then (aBi (f_X12_allWeights D_3) (fun y_8 D_9 => aBi (f_X12_weightsOf v1 D_9) (fun y_10 D_11 => if y_8 ≠ 0 then (aBi (f_X12_common y_8 y_10 D_11) (fun y_12 D_13 => J_X12_odds_54 v2 y_8 y_10 y_12 D_13)) else (J_X12_odds_54 v2 y_8 y_10 1 D_11)))) else (aBi (f_X12_fail 1 D_3) (fun y_16 D_17 => some (y_16, D_17)))))))
set_option maxRecDepth 100000 in
set_option maxHeartbeats 800000 in
theorem c_X12_odds {G : aG} (hG : gOK G) {shp : List aSh} (hS : aShp shp) {fr : Option Nat} {v1 : Int32} {v2 : Int32} {D : aD} {K : Int32 → aD → Prop} (h : Ok2 (f_X12_odds v1 v2 D) K) : AC G (aRm 7 0 0) M_X12_odds [.ref 88, .int v1, .int v2] fr shp D (aQi shp K) := by
  replace h := Ok2.ok h
  unfold f_X12_odds at h
  refine AC.of (al := [some (.ref 88), some (.int v1), some (.int v2), none, none, none]) (r := 3) (by decide) (Nat.le_of_ble_eq_true rfl) rfl ?_
  have hJ_54 : ∀ (v2 : Int32) (v3 : Int32) (v4 : Int32) (t0 : Int32) (D : aD), Ok (J_X12_odds_54 v2 v3 v4 t0 D) (fun r => K r.1 r.2) → AW G (aRm 7 0 0) M_X12_odds fr 0 0 54 [none, none, some (.int v2), some (.int v3), some (.int v4), none] [.int t0] shp D (aQi shp K) := by
    intro v2 v3 v4 t0 D h
    unfold J_X12_odds_54 at h
    refine aw_istore (n := 56) (i := 5) (al' := [none, none, some (.int v2), some (.int v3), some (.int v4), some (.int t0)]) dX12_odds_54 rfl rfl (by decide) rfl ?_
    refine aw_iload_n (n := 57) (i := 2) dX12_odds_56 rfl rfl rfl ?_
    refine aw_if_ne (n := 60) (tgt := 68) dX12_odds_57 rfl (by decide) (fun c => ?_) (fun c => ?_)
    · replace h := Ok.ift h c
      refine aw_iload_n (n := 69) (i := 3) dX12_odds_68 rfl rfl rfl ?_
      refine aw_if_ne (n := 72) (tgt := 76) dX12_odds_69 rfl (by decide) (fun c => ?_) (fun c => ?_)
      · replace h := Ok.ift h c
        refine aw_iload_n (n := 77) (i := 3) dX12_odds_76 rfl rfl rfl ?_
        refine aw_iload (n := 79) (i := 5) dX12_odds_77 rfl rfl ?_
        obtain ⟨g_14, h⟩ := Ok.gd h
        refine aw_idiv (n := 80) dX12_odds_79 rfl (aNz_ne g_14) ?_
        exact aw_iret rfl (by decide) (by decide) dX12_odds_80 ⟨_, rfl, rfl, (Ok.dn h :)⟩
      · replace h := Ok.iffn h c
        refine aw_iconst (n := 73) (v := 1) dX12_odds_72 rfl (by decide) ?_
        refine aw_goto (tgt := 80) dX12_odds_73 (by decide) ?_
        exact aw_iret rfl (by decide) (by decide) dX12_odds_80 ⟨_, rfl, rfl, (Ok.dn h :)⟩
    · replace h := Ok.iffn h c
      refine aw_iload (n := 62) (i := 4) dX12_odds_60 rfl rfl ?_
      refine aw_iload (n := 64) (i := 5) dX12_odds_62 rfl rfl ?_
      obtain ⟨g_15, h⟩ := Ok.gd h
      refine aw_idiv (n := 65) dX12_odds_64 rfl (aNz_ne g_15) ?_
      refine aw_goto (tgt := 80) dX12_odds_65 (by decide) ?_
      exact aw_iret rfl (by decide) (by decide) dX12_odds_80 ⟨_, rfl, rfl, (Ok.dn h :)⟩
  refine aw_aload_n (n := 1) (i := 0) dX12_odds_0 rfl rfl rfl ?_
  refine aw_iconst (n := 2) (v := 0) dX12_odds_1 rfl (by decide) ?_
  obtain ⟨D_1, e_D_1, h⟩ := Ok.let_ h
  refine aw_putI (n := 5) (j := 2) hG.1 fl_RX12_157 (sF_88 hS) rfl e_D_1 dX12_odds_2 rfl ?_
  refine aw_aload_n (n := 6) (i := 0) dX12_odds_5 rfl rfl rfl ?_
  refine aw_iload_n (n := 7) (i := 1) dX12_odds_6 rfl rfl rfl ?_
  refine aw_cVi (M := M_X12_odds) (n := 10) (As := [.int v1]) (rest := []) hG.1 lk_RX12_343 rfl rfl (sF_88 hS) (c_X12_isGarden hG hS (h := Ok.bi h)) (by decide) (Nat.le_of_ble_eq_true rfl) (by decide) (by decide) dX12_odds_7 rfl (fun y_2 D_3 h => ?_)
  refine aw_if_eq (n := 13) (tgt := 22) dX12_odds_10 rfl (by decide) (fun c => ?_) (fun c => ?_)
  · replace h := Ok.ift h c
    refine aw_aload_n (n := 23) (i := 0) dX12_odds_22 rfl rfl rfl ?_
    refine aw_iconst (n := 24) (v := 1) dX12_odds_23 rfl (by decide) ?_
    refine aw_cVi (M := M_X12_odds) (n := 27) (As := [.int 1]) (rest := []) hG.1 lk_RX12_290 rfl rfl (sF_88 hS) (c_X12_fail hG hS (h := Ok.bi h)) (by decide) (Nat.le_of_ble_eq_true rfl) (by decide) (by decide) dX12_odds_24 rfl (fun y_4 D_5 h => ?_)
    exact aw_iret rfl (by decide) (by decide) dX12_odds_27 ⟨_, rfl, rfl, (Ok.dn h :)⟩
  · replace h := Ok.iff h c
    refine aw_iload_n (n := 14) (i := 2) dX12_odds_13 rfl rfl rfl ?_
    refine aw_if_lt (n := 17) (tgt := 22) dX12_odds_14 rfl (by decide) (fun c => ?_) (fun c => ?_)
    · replace h := Ok.ift h c
      refine aw_aload_n (n := 23) (i := 0) dX12_odds_22 rfl rfl rfl ?_
      refine aw_iconst (n := 24) (v := 1) dX12_odds_23 rfl (by decide) ?_
      refine aw_cVi (M := M_X12_odds) (n := 27) (As := [.int 1]) (rest := []) hG.1 lk_RX12_290 rfl rfl (sF_88 hS) (c_X12_fail hG hS (h := Ok.bi h)) (by decide) (Nat.le_of_ble_eq_true rfl) (by decide) (by decide) dX12_odds_24 rfl (fun y_6 D_7 h => ?_)
      exact aw_iret rfl (by decide) (by decide) dX12_odds_27 ⟨_, rfl, rfl, (Ok.dn h :)⟩
    · replace h := Ok.iff h c
      refine aw_iload_n (n := 18) (i := 2) dX12_odds_17 rfl rfl rfl ?_
      refine aw_iconst (n := 19) (v := 1) dX12_odds_18 rfl (by decide) ?_
      refine aw_icmp_le (n := 22) (tgt := 28) dX12_odds_19 rfl (by decide) (fun c => ?_) (fun c => ?_)
      · replace h := Ok.ift h c
        refine aw_aload_n (n := 29) (i := 0) dX12_odds_28 rfl rfl rfl ?_
        refine aw_cVi (M := M_X12_odds) (n := 32) (As := []) (rest := []) hG.1 lk_RX12_359 rfl rfl (sF_88 hS) (c_X12_allWeights hG hS (h := Ok.bi h)) (by decide) (Nat.le_of_ble_eq_true rfl) (by decide) (by decide) dX12_odds_29 rfl (fun y_8 D_9 h => ?_)
        refine aw_istore_n (n := 33) (i := 3) (al' := [some (.ref 88), some (.int v1), some (.int v2), some (.int y_8), none, none]) dX12_odds_32 rfl rfl rfl (by decide) rfl ?_
        refine aw_aload_n (n := 34) (i := 0) dX12_odds_33 rfl rfl rfl ?_
        refine aw_iload_n (n := 35) (i := 1) dX12_odds_34 rfl rfl rfl ?_
        refine aw_cVi (M := M_X12_odds) (n := 38) (As := [.int v1]) (rest := []) hG.1 lk_RX12_362 rfl rfl (sF_88 hS) (c_X12_weightsOf hG hS (h := Ok.bi h)) (by decide) (Nat.le_of_ble_eq_true rfl) (by decide) (by decide) dX12_odds_35 rfl (fun y_10 D_11 h => ?_)
        refine aw_istore (n := 40) (i := 4) (al' := [some (.ref 88), some (.int v1), some (.int v2), some (.int y_8), some (.int y_10), none]) dX12_odds_38 rfl rfl (by decide) rfl ?_
        refine aw_iload_n (n := 41) (i := 3) dX12_odds_40 rfl rfl rfl ?_
        refine aw_if_ne (n := 44) (tgt := 48) dX12_odds_41 rfl (by decide) (fun c => ?_) (fun c => ?_)
        · replace h := Ok.ift h c
          refine aw_iload_n (n := 49) (i := 3) dX12_odds_48 rfl rfl rfl ?_
          refine aw_iload (n := 51) (i := 4) dX12_odds_49 rfl rfl ?_
          refine aw_cSi (M := M_X12_odds) (n := 54) (As := [.int y_8, .int y_10]) (rest := []) lk_RX12_365 rfl rfl (c_X12_common hG hS (h := Ok.bi h)) (by decide) (Nat.le_of_ble_eq_true rfl) (by decide) (by decide) dX12_odds_51 rfl (fun y_12 D_13 h => ?_)
          exact aw_le' (hJ_54 v2 y_8 y_10 y_12 D_13 h) ⟨rfl, ⟨rfl, ⟨rfl, trivial⟩⟩⟩
        · replace h := Ok.iffn h c
          refine aw_iconst (n := 45) (v := 1) dX12_odds_44 rfl (by decide) ?_
          refine aw_goto (tgt := 54) dX12_odds_45 (by decide) ?_
          exact aw_le' (hJ_54 v2 y_8 y_10 1 D_11 h) ⟨rfl, ⟨rfl, ⟨rfl, trivial⟩⟩⟩
      · replace h := Ok.iff h c
        refine aw_aload_n (n := 23) (i := 0) dX12_odds_22 rfl rfl rfl ?_
        refine aw_iconst (n := 24) (v := 1) dX12_odds_23 rfl (by decide) ?_
        refine aw_cVi (M := M_X12_odds) (n := 27) (As := [.int 1]) (rest := []) hG.1 lk_RX12_290 rfl rfl (sF_88 hS) (c_X12_fail hG hS (h := Ok.bi h)) (by decide) (Nat.le_of_ble_eq_true rfl) (by decide) (by decide) dX12_odds_24 rfl (fun y_16 D_17 h => ?_)
        exact aw_iret rfl (by decide) (by decide) dX12_odds_27 ⟨_, rfl, rfl, (Ok.dn h :)⟩
theorem dX12_tellMine_0 : decode cX12_tellMine 0 = .ok (.aload_n 0, 1) := by decide +kernel
theorem dX12_tellMine_1 : decode cX12_tellMine 1 = .ok (.iconst 0, 1) := by decide +kernel
theorem dX12_tellMine_2 : decode cX12_tellMine 2 = .ok (.putfield 368, 3) := by decide +kernel
theorem dX12_tellMine_5 : decode cX12_tellMine 5 = .ok (.iconst 0, 1) := by decide +kernel
theorem dX12_tellMine_6 : decode cX12_tellMine 6 = .ok (.istore_n 2, 1) := by decide +kernel
theorem dX12_tellMine_7 : decode cX12_tellMine 7 = .ok (.iload_n 2, 1) := by decide +kernel
theorem dX12_tellMine_8 : decode cX12_tellMine 8 = .ok (.aload_n 0, 1) := by decide +kernel
theorem dX12_tellMine_9 : decode cX12_tellMine 9 = .ok (.getfield 303, 3) := by decide +kernel
theorem dX12_tellMine_12 : decode cX12_tellMine 12 = .ok (.if_icmp .ge 42, 3) := by decide +kernel
theorem dX12_tellMine_15 : decode cX12_tellMine 15 = .ok (.aload_n 0, 1) := by decide +kernel
theorem dX12_tellMine_16 : decode cX12_tellMine 16 = .ok (.getfield 57, 3) := by decide +kernel
theorem dX12_tellMine_19 : decode cX12_tellMine 19 = .ok (.iload_n 2, 1) := by decide +kernel
theorem dX12_tellMine_20 : decode cX12_tellMine 20 = .ok (.iaload, 1) := by decide +kernel
theorem dX12_tellMine_21 : decode cX12_tellMine 21 = .ok (.iload_n 1, 1) := by decide +kernel
theorem dX12_tellMine_22 : decode cX12_tellMine 22 = .ok (.if_icmp .eq 6, 3) := by decide +kernel
theorem dX12_tellMine_25 : decode cX12_tellMine 25 = .ok (.goto 23, 3) := by decide +kernel
theorem dX12_tellMine_28 : decode cX12_tellMine 28 = .ok (.aload_n 0, 1) := by decide +kernel
theorem dX12_tellMine_29 : decode cX12_tellMine 29 = .ok (.getfield 100, 3) := by decide +kernel
theorem dX12_tellMine_32 : decode cX12_tellMine 32 = .ok (.aload_n 0, 1) := by decide +kernel
theorem dX12_tellMine_33 : decode cX12_tellMine 33 = .ok (.getfield 368, 3) := by decide +kernel
theorem dX12_tellMine_36 : decode cX12_tellMine 36 = .ok (.iload_n 2, 1) := by decide +kernel
theorem dX12_tellMine_37 : decode cX12_tellMine 37 = .ok (.iastore, 1) := by decide +kernel
theorem dX12_tellMine_38 : decode cX12_tellMine 38 = .ok (.aload_n 0, 1) := by decide +kernel
theorem dX12_tellMine_39 : decode cX12_tellMine 39 = .ok (.dup, 1) := by decide +kernel
theorem dX12_tellMine_40 : decode cX12_tellMine 40 = .ok (.getfield 368, 3) := by decide +kernel
theorem dX12_tellMine_43 : decode cX12_tellMine 43 = .ok (.iconst 1, 1) := by decide +kernel
theorem dX12_tellMine_44 : decode cX12_tellMine 44 = .ok (.iadd, 1) := by decide +kernel
theorem dX12_tellMine_45 : decode cX12_tellMine 45 = .ok (.putfield 368, 3) := by decide +kernel
theorem dX12_tellMine_48 : decode cX12_tellMine 48 = .ok (.iinc 2 1, 3) := by decide +kernel
theorem dX12_tellMine_51 : decode cX12_tellMine 51 = .ok (.goto (-44), 3) := by decide +kernel
theorem dX12_tellMine_54 : decode cX12_tellMine 54 = .ok (.return_, 1) := by decide +kernel
def J_X12_tellMine_54 (D : aD) : Option (aD) :=
  some D
def B_X12_tellMine_7 (v1 : Int32) (v2 : Int32) (D : aD) : Option ((Int32 × aD) ⊕ ((aD))) :=
  if gI D 88 30 ≤ v2 then (some (.inr D)) else (aGd (aIn v2 26) (if gI D 101 v2.toNatClampNeg = v1 then (aGd (aIn (gI D 88 41) 12) (aLet (pI D 113 (gI D 88 41).toNatClampNeg v2) (fun D_4 => aLet (pI D_4 88 41 ((gI D_4 88 41) + 1)) (fun D_5 => aLet (v2 + 1) (fun v2_6 => some (.inl (v2_6, D_5))))))) else (aLet (v2 + 1) (fun v2_7 => some (.inl (v2_7, D))))))
def J_X12_tellMine_7 (v1 : Int32) (v2 : Int32) (D : aD) : Option (aD) :=
  (aLp (fun s => B_X12_tellMine_7 v1 s.1 s.2) (v2, D)).bind (fun r => J_X12_tellMine_54 r)
def f_X12_tellMine (v1 : Int32) (D : aD) : Option (aD) :=
  aLet (pI D 88 41 0) (fun D_1 => J_X12_tellMine_7 v1 0 D_1)
set_option maxRecDepth 100000 in
set_option maxHeartbeats 800000 in
theorem c_X12_tellMine {G : aG} (hG : gOK G) {shp : List aSh} (hS : aShp shp) {fr : Option Nat} {v1 : Int32} {D : aD} {K : aD → Prop} (h : Ok (f_X12_tellMine v1 D) K) : AC G (aRm 1 0 0) M_X12_tellMine [.ref 88, .int v1] fr shp D (aQv shp K) := by
  unfold f_X12_tellMine at h
  refine AC.of (al := [some (.ref 88), some (.int v1), none]) (r := 1) (by decide) (Nat.le_of_ble_eq_true rfl) rfl ?_
  have hJ_54 : ∀ (D : aD), Ok (J_X12_tellMine_54 D) K → AW G (aRm 1 0 0) M_X12_tellMine fr 0 0 54 [none, none, none] [] shp D (aQv shp K) := by
    intro D h
    unfold J_X12_tellMine_54 at h
    exact aw_vret rfl (by decide) (by decide) dX12_tellMine_54 ⟨rfl, rfl, (Ok.dn h :)⟩
  have hJ_7 : ∀ (v1 : Int32) (v2 : Int32) (D : aD), Ok (J_X12_tellMine_7 v1 v2 D) K → AW G (aRm 1 0 0) M_X12_tellMine fr 0 0 7 [some (.ref 88), some (.int v1), some (.int v2)] [] shp D (aQv shp K) := by
    intro v1 v2 D h
    unfold J_X12_tellMine_7 at h
    refine Ok.lp (P := fun s => AW G (aRm 1 0 0) M_X12_tellMine fr 0 0 7 [some (.ref 88), some (.int v1), some (.int (s.1))] [] shp s.2 (aQv shp K)) (fun s Kb7 hL7 hR7 h => ?_) (v2, D) (Ok.bind h)
    obtain ⟨v2, D⟩ := s
    replace h : Ok (B_X12_tellMine_7 v1 v2 D) Kb7 := h
    unfold B_X12_tellMine_7 at h
    refine aw_iload_n (n := 8) (i := 2) dX12_tellMine_7 rfl rfl rfl ?_
    refine aw_aload_n (n := 9) (i := 0) dX12_tellMine_8 rfl rfl rfl ?_
    refine aw_getI (n := 12) (j := 30) hG.1 fl_RX12_303 (sF_88 hS) rfl dX12_tellMine_9 rfl ?_
    refine aw_icmp_ge (n := 15) (tgt := 54) dX12_tellMine_12 rfl (by decide) (fun c => ?_) (fun c => ?_)
    · replace h := Ok.ift h c
      exact aw_le' (hJ_54 D (hR7 D (Ok.dn h :))) trivial
    · replace h := Ok.iff h c
      refine aw_aload_n (n := 16) (i := 0) dX12_tellMine_15 rfl rfl rfl ?_
      refine aw_getR (n := 19) (j := 13) (r := 101) hG.1 fl_RX12_57 (sF_88 hS) rfl dX12_tellMine_16 rfl ?_
      refine aw_iload_n (n := 20) (i := 2) dX12_tellMine_19 rfl rfl rfl ?_
      obtain ⟨g_2, h⟩ := Ok.gd h
      refine aw_iaload (n := 21) hG.1 (sF_101 hS) (aIn_in g_2) dX12_tellMine_20 rfl ?_
      refine aw_iload_n (n := 22) (i := 1) dX12_tellMine_21 rfl rfl rfl ?_
      refine aw_icmp_eq (n := 25) (tgt := 28) dX12_tellMine_22 rfl (by decide) (fun c => ?_) (fun c => ?_)
      · replace h := Ok.ift h c
        refine aw_aload_n (n := 29) (i := 0) dX12_tellMine_28 rfl rfl rfl ?_
        refine aw_getR (n := 32) (j := 39) (r := 113) hG.1 fl_RX12_100 (sF_88 hS) rfl dX12_tellMine_29 rfl ?_
        refine aw_aload_n (n := 33) (i := 0) dX12_tellMine_32 rfl rfl rfl ?_
        refine aw_getI (n := 36) (j := 41) hG.1 fl_RX12_368 (sF_88 hS) rfl dX12_tellMine_33 rfl ?_
        refine aw_iload_n (n := 37) (i := 2) dX12_tellMine_36 rfl rfl rfl ?_
        obtain ⟨g_3, h⟩ := Ok.gd h
        obtain ⟨D_4, e_D_4, h⟩ := Ok.let_ h
        refine aw_iastore (n := 38) hG.1 (sF_113 hS) (aIn_in g_3) e_D_4 dX12_tellMine_37 rfl ?_
        refine aw_aload_n (n := 39) (i := 0) dX12_tellMine_38 rfl rfl rfl ?_
        refine aw_dup (n := 40) dX12_tellMine_39 rfl rfl ?_
        refine aw_getI (n := 43) (j := 41) hG.1 fl_RX12_368 (sF_88 hS) rfl dX12_tellMine_40 rfl ?_
        refine aw_iconst (n := 44) (v := 1) dX12_tellMine_43 rfl (by decide) ?_
        refine aw_iadd (n := 45) dX12_tellMine_44 rfl ?_
        obtain ⟨D_5, e_D_5, h⟩ := Ok.let_ h
        refine aw_putI (n := 48) (j := 41) hG.1 fl_RX12_368 (sF_88 hS) rfl e_D_5 dX12_tellMine_45 rfl ?_
        obtain ⟨v2_6, e_v2_6, h⟩ := Ok.let_ h
        refine aw_iinc (n := 51) (al' := [some (.ref 88), some (.int v1), some (.int v2_6)]) dX12_tellMine_48 rfl rfl e_v2_6 (by decide) rfl ?_
        refine aw_goto (tgt := 7) dX12_tellMine_51 (by decide) ?_
        exact aw_le' (hL7 (v2_6, D_5) (Ok.dn h :)) ⟨rfl, ⟨rfl, ⟨rfl, trivial⟩⟩⟩
      · replace h := Ok.iff h c
        refine aw_goto (tgt := 48) dX12_tellMine_25 (by decide) ?_
        obtain ⟨v2_7, e_v2_7, h⟩ := Ok.let_ h
        refine aw_iinc (n := 51) (al' := [some (.ref 88), some (.int v1), some (.int v2_7)]) dX12_tellMine_48 rfl rfl e_v2_7 (by decide) rfl ?_
        refine aw_goto (tgt := 7) dX12_tellMine_51 (by decide) ?_
        exact aw_le' (hL7 (v2_7, D) (Ok.dn h :)) ⟨rfl, ⟨rfl, ⟨rfl, trivial⟩⟩⟩
  refine aw_aload_n (n := 1) (i := 0) dX12_tellMine_0 rfl rfl rfl ?_
  refine aw_iconst (n := 2) (v := 0) dX12_tellMine_1 rfl (by decide) ?_
  obtain ⟨D_1, e_D_1, h⟩ := Ok.let_ h
  refine aw_putI (n := 5) (j := 41) hG.1 fl_RX12_368 (sF_88 hS) rfl e_D_1 dX12_tellMine_2 rfl ?_
  refine aw_iconst (n := 6) (v := 0) dX12_tellMine_5 rfl (by decide) ?_
  refine aw_istore_n (n := 7) (i := 2) (al' := [some (.ref 88), some (.int v1), some (.int 0)]) dX12_tellMine_6 rfl rfl rfl (by decide) rfl ?_
  exact aw_le' (hJ_7 v1 0 D_1 h) ⟨rfl, ⟨rfl, ⟨rfl, trivial⟩⟩⟩
theorem dX12_turnOn_0 : decode cX12_turnOn 0 = .ok (.iload_n 2, 1) := by decide +kernel
theorem dX12_turnOn_1 : decode cX12_turnOn 1 = .ok (.aload_n 0, 1) := by decide +kernel
theorem dX12_turnOn_2 : decode cX12_turnOn 2 = .ok (.getfield 368, 3) := by decide +kernel
theorem dX12_turnOn_5 : decode cX12_turnOn 5 = .ok (.if_icmp .ne 58, 3) := by decide +kernel
theorem dX12_turnOn_8 : decode cX12_turnOn 8 = .ok (.aload_n 0, 1) := by decide +kernel
theorem dX12_turnOn_9 : decode cX12_turnOn 9 = .ok (.iload_n 1, 1) := by decide +kernel
theorem dX12_turnOn_10 : decode cX12_turnOn 10 = .ok (.invokevirtual 362, 3) := by decide +kernel
theorem dX12_turnOn_13 : decode cX12_turnOn 13 = .ok (.istore_n 3, 1) := by decide +kernel
theorem dX12_turnOn_14 : decode cX12_turnOn 14 = .ok (.iload_n 3, 1) := by decide +kernel
theorem dX12_turnOn_15 : decode cX12_turnOn 15 = .ok (.aload_n 0, 1) := by decide +kernel
theorem dX12_turnOn_16 : decode cX12_turnOn 16 = .ok (.getfield 371, 3) := by decide +kernel
theorem dX12_turnOn_19 : decode cX12_turnOn 19 = .ok (.if_icmp .gt 4, 3) := by decide +kernel
theorem dX12_turnOn_22 : decode cX12_turnOn 22 = .ok (.return_, 1) := by decide +kernel
theorem dX12_turnOn_23 : decode cX12_turnOn 23 = .ok (.aload_n 0, 1) := by decide +kernel
theorem dX12_turnOn_24 : decode cX12_turnOn 24 = .ok (.iload_n 3, 1) := by decide +kernel
theorem dX12_turnOn_25 : decode cX12_turnOn 25 = .ok (.putfield 371, 3) := by decide +kernel
theorem dX12_turnOn_28 : decode cX12_turnOn 28 = .ok (.iconst 0, 1) := by decide +kernel
theorem dX12_turnOn_29 : decode cX12_turnOn 29 = .ok (.istore 4, 2) := by decide +kernel
theorem dX12_turnOn_31 : decode cX12_turnOn 31 = .ok (.iload 4, 2) := by decide +kernel
theorem dX12_turnOn_33 : decode cX12_turnOn 33 = .ok (.iload_n 2, 1) := by decide +kernel
theorem dX12_turnOn_34 : decode cX12_turnOn 34 = .ok (.if_icmp .ge 28, 3) := by decide +kernel
theorem dX12_turnOn_37 : decode cX12_turnOn 37 = .ok (.aload_n 0, 1) := by decide +kernel
theorem dX12_turnOn_38 : decode cX12_turnOn 38 = .ok (.getfield 103, 3) := by decide +kernel
theorem dX12_turnOn_41 : decode cX12_turnOn 41 = .ok (.iload 4, 2) := by decide +kernel
theorem dX12_turnOn_43 : decode cX12_turnOn 43 = .ok (.aload_n 0, 1) := by decide +kernel
theorem dX12_turnOn_44 : decode cX12_turnOn 44 = .ok (.getfield 76, 3) := by decide +kernel
theorem dX12_turnOn_47 : decode cX12_turnOn 47 = .ok (.aload_n 0, 1) := by decide +kernel
theorem dX12_turnOn_48 : decode cX12_turnOn 48 = .ok (.getfield 100, 3) := by decide +kernel
theorem dX12_turnOn_51 : decode cX12_turnOn 51 = .ok (.iload 4, 2) := by decide +kernel
theorem dX12_turnOn_53 : decode cX12_turnOn 53 = .ok (.iaload, 1) := by decide +kernel
theorem dX12_turnOn_54 : decode cX12_turnOn 54 = .ok (.iaload, 1) := by decide +kernel
theorem dX12_turnOn_55 : decode cX12_turnOn 55 = .ok (.iastore, 1) := by decide +kernel
theorem dX12_turnOn_56 : decode cX12_turnOn 56 = .ok (.iinc 4 1, 3) := by decide +kernel
theorem dX12_turnOn_59 : decode cX12_turnOn 59 = .ok (.goto (-28), 3) := by decide +kernel
theorem dX12_turnOn_62 : decode cX12_turnOn 62 = .ok (.return_, 1) := by decide +kernel
theorem dX12_turnOn_63 : decode cX12_turnOn 63 = .ok (.aload_n 0, 1) := by decide +kernel
theorem dX12_turnOn_64 : decode cX12_turnOn 64 = .ok (.getfield 100, 3) := by decide +kernel
theorem dX12_turnOn_67 : decode cX12_turnOn 67 = .ok (.iload_n 2, 1) := by decide +kernel
theorem dX12_turnOn_68 : decode cX12_turnOn 68 = .ok (.iaload, 1) := by decide +kernel
theorem dX12_turnOn_69 : decode cX12_turnOn 69 = .ok (.istore_n 3, 1) := by decide +kernel
theorem dX12_turnOn_70 : decode cX12_turnOn 70 = .ok (.aload_n 0, 1) := by decide +kernel
theorem dX12_turnOn_71 : decode cX12_turnOn 71 = .ok (.getfield 76, 3) := by decide +kernel
theorem dX12_turnOn_74 : decode cX12_turnOn 74 = .ok (.iload_n 3, 1) := by decide +kernel
theorem dX12_turnOn_75 : decode cX12_turnOn 75 = .ok (.iaload, 1) := by decide +kernel
theorem dX12_turnOn_76 : decode cX12_turnOn 76 = .ok (.istore 4, 2) := by decide +kernel
theorem dX12_turnOn_78 : decode cX12_turnOn 78 = .ok (.iconst 0, 1) := by decide +kernel
theorem dX12_turnOn_79 : decode cX12_turnOn 79 = .ok (.istore 5, 2) := by decide +kernel
theorem dX12_turnOn_81 : decode cX12_turnOn 81 = .ok (.iload 5, 2) := by decide +kernel
theorem dX12_turnOn_83 : decode cX12_turnOn 83 = .ok (.iconst 1, 1) := by decide +kernel
theorem dX12_turnOn_84 : decode cX12_turnOn 84 = .ok (.aload_n 0, 1) := by decide +kernel
theorem dX12_turnOn_85 : decode cX12_turnOn 85 = .ok (.getfield 48, 3) := by decide +kernel
theorem dX12_turnOn_88 : decode cX12_turnOn 88 = .ok (.aload_n 0, 1) := by decide +kernel
theorem dX12_turnOn_89 : decode cX12_turnOn 89 = .ok (.getfield 51, 3) := by decide +kernel
theorem dX12_turnOn_92 : decode cX12_turnOn 92 = .ok (.iload_n 3, 1) := by decide +kernel
theorem dX12_turnOn_93 : decode cX12_turnOn 93 = .ok (.iaload, 1) := by decide +kernel
theorem dX12_turnOn_94 : decode cX12_turnOn 94 = .ok (.iaload, 1) := by decide +kernel
theorem dX12_turnOn_95 : decode cX12_turnOn 95 = .ok (.iadd, 1) := by decide +kernel
theorem dX12_turnOn_96 : decode cX12_turnOn 96 = .ok (.if_icmp .gt 25, 3) := by decide +kernel
theorem dX12_turnOn_99 : decode cX12_turnOn 99 = .ok (.aload_n 0, 1) := by decide +kernel
theorem dX12_turnOn_100 : decode cX12_turnOn 100 = .ok (.getfield 76, 3) := by decide +kernel
theorem dX12_turnOn_103 : decode cX12_turnOn 103 = .ok (.iload_n 3, 1) := by decide +kernel
theorem dX12_turnOn_104 : decode cX12_turnOn 104 = .ok (.iload 5, 2) := by decide +kernel
theorem dX12_turnOn_106 : decode cX12_turnOn 106 = .ok (.iastore, 1) := by decide +kernel
theorem dX12_turnOn_107 : decode cX12_turnOn 107 = .ok (.aload_n 0, 1) := by decide +kernel
theorem dX12_turnOn_108 : decode cX12_turnOn 108 = .ok (.iload_n 1, 1) := by decide +kernel
theorem dX12_turnOn_109 : decode cX12_turnOn 109 = .ok (.iload_n 2, 1) := by decide +kernel
theorem dX12_turnOn_110 : decode cX12_turnOn 110 = .ok (.iconst 1, 1) := by decide +kernel
theorem dX12_turnOn_111 : decode cX12_turnOn 111 = .ok (.iadd, 1) := by decide +kernel
theorem dX12_turnOn_112 : decode cX12_turnOn 112 = .ok (.invokevirtual 374, 3) := by decide +kernel
theorem dX12_turnOn_115 : decode cX12_turnOn 115 = .ok (.iinc 5 1, 3) := by decide +kernel
theorem dX12_turnOn_118 : decode cX12_turnOn 118 = .ok (.goto (-37), 3) := by decide +kernel
theorem dX12_turnOn_121 : decode cX12_turnOn 121 = .ok (.aload_n 0, 1) := by decide +kernel
theorem dX12_turnOn_122 : decode cX12_turnOn 122 = .ok (.getfield 76, 3) := by decide +kernel
theorem dX12_turnOn_125 : decode cX12_turnOn 125 = .ok (.iload_n 3, 1) := by decide +kernel
theorem dX12_turnOn_126 : decode cX12_turnOn 126 = .ok (.iload 4, 2) := by decide +kernel
theorem dX12_turnOn_128 : decode cX12_turnOn 128 = .ok (.iastore, 1) := by decide +kernel
theorem dX12_turnOn_129 : decode cX12_turnOn 129 = .ok (.return_, 1) := by decide +kernel
def J_X12_turnOn_121 (fR : Int32 → Int32 → aD → Option aD) (v3 : Int32) (v4 : Int32) (D : aD) : Option (aD) :=
  aGd (aIn v3 13) (aLet (pI D 106 v3.toNatClampNeg v4) (fun D_6 => some D_6))
def B_X12_turnOn_81 (fR : Int32 → Int32 → aD → Option aD) (v1 : Int32) (v2 : Int32) (v3 : Int32) (v4 : Int32) (v5 : Int32) (D : aD) : Option ((Int32 × aD) ⊕ ((aD))) :=
  aGd (aIn v3 26) (aGd (aIn (gI D 99 v3.toNatClampNeg) 12) (if 1 + (gI D 98 (gI D 99 v3.toNatClampNeg).toNatClampNeg) < v5 then (some (.inr D)) else (aGd (aIn v3 13) (aLet (pI D 106 v3.toNatClampNeg v5) (fun D_10 => (fR v1 (v2 + 1) D_10).bind (fun D_11 => aLet (v5 + 1) (fun v5_12 => some (.inl (v5_12, D_11)))))))))
def J_X12_turnOn_81 (fR : Int32 → Int32 → aD → Option aD) (v1 : Int32) (v2 : Int32) (v3 : Int32) (v4 : Int32) (v5 : Int32) (D : aD) : Option (aD) :=
  (aLp (fun s => B_X12_turnOn_81 fR v1 v2 v3 v4 s.1 s.2) (v5, D)).bind (fun r => J_X12_turnOn_121 fR v3 v4 r)
def J_X12_turnOn_62 (fR : Int32 → Int32 → aD → Option aD) (D : aD) : Option (aD) :=
  some D
def B_X12_turnOn_31 (fR : Int32 → Int32 → aD → Option aD) (v2 : Int32) (v4 : Int32) (D : aD) : Option ((Int32 × aD) ⊕ ((aD))) :=
  if v2 ≤ v4 then (some (.inr D)) else (aGd (aIn v4 12) (aGd (aIn (gI D 113 v4.toNatClampNeg) 13) (aGd (aIn v4 12) (aLet (pI D 114 v4.toNatClampNeg (gI D 106 (gI D 113 v4.toNatClampNeg).toNatClampNeg)) (fun D_19 => aLet (v4 + 1) (fun v4_20 => some (.inl (v4_20, D_19))))))))
def J_X12_turnOn_31 (fR : Int32 → Int32 → aD → Option aD) (v2 : Int32) (v4 : Int32) (D : aD) : Option (aD) :=
  (aLp (fun s => B_X12_turnOn_31 fR v2 s.1 s.2) (v4, D)).bind (fun r => J_X12_turnOn_62 fR r)
def F_X12_turnOn (fR : Int32 → Int32 → aD → Option aD) (v1 : Int32) (v2 : Int32) (D : aD) : Option (aD) :=
  if v2 ≠ gI D 88 41 then (aGd (aIn v2 12) (aLet (gI D 113 v2.toNatClampNeg) (fun v3_2 => aGd (aIn v3_2 13) (aLet (gI D 106 v3_2.toNatClampNeg) (fun v4_4 => J_X12_turnOn_81 fR v1 v2 v3_2 v4_4 0 D))))) else (aBi (f_X12_weightsOf v1 D) (fun y_13 D_14 => if gI D_14 88 42 < y_13 then (aLet (pI D_14 88 42 y_13) (fun D_15 => J_X12_turnOn_31 fR v2 0 D_15)) else (some D_14)))
def N_X12_turnOn : Nat → Int32 → Int32 → aD → Option (aD)
  | 0, _, _, _ => none
  | n + 1, v1, v2, D => F_X12_turnOn (N_X12_turnOn n) v1 v2 D
def f_X12_turnOn (v1 : Int32) (v2 : Int32) (D : aD) : Option (aD) := N_X12_turnOn 8 v1 v2 D
set_option maxRecDepth 100000 in
set_option maxHeartbeats 800000 in
theorem c_X12_turnOn_L0 {G : aG} (hG : gOK G) {shp : List aSh} (hS : aShp shp) {fr : Option Nat} {v1 : Int32} {v2 : Int32} {D : aD} {K : aD → Prop} (h : Ok (N_X12_turnOn 0 v1 v2 D) K) : AC G (aRm 6 0 0) M_X12_turnOn [.ref 88, .int v1, .int v2] fr shp D (aQv shp K) := by obtain ⟨a, e, -⟩ := h; cases e
set_option maxRecDepth 100000 in
set_option maxHeartbeats 800000 in
theorem c_X12_turnOn_L1 {G : aG} (hG : gOK G) {shp : List aSh} (hS : aShp shp) {fr : Option Nat} {v1 : Int32} {v2 : Int32} {D : aD} {K : aD → Prop} (h : Ok (N_X12_turnOn 1 v1 v2 D) K) : AC G (aRm 7 0 0) M_X12_turnOn [.ref 88, .int v1, .int v2] fr shp D (aQv shp K) := by
  replace h : Ok (F_X12_turnOn (N_X12_turnOn 0) v1 v2 D) K := h
  unfold F_X12_turnOn at h
  refine AC.of (al := [some (.ref 88), some (.int v1), some (.int v2), none, none, none]) (r := 3) (by decide) (Nat.le_of_ble_eq_true rfl) rfl ?_
  have hJ_62 : ∀ (D : aD), Ok (J_X12_turnOn_62 (N_X12_turnOn 0) D) K → AW G (aRm 7 0 0) M_X12_turnOn fr 0 0 62 [none, none, none, none, none, none] [] shp D (aQv shp K) := by
    intro D h
    unfold J_X12_turnOn_62 at h
    exact aw_vret rfl (by decide) (by decide) dX12_turnOn_62 ⟨rfl, rfl, (Ok.dn h :)⟩
  have hJ_31 : ∀ (v2 : Int32) (v4 : Int32) (D : aD), Ok (J_X12_turnOn_31 (N_X12_turnOn 0) v2 v4 D) K → AW G (aRm 7 0 0) M_X12_turnOn fr 0 0 31 [some (.ref 88), none, some (.int v2), none, some (.int v4), none] [] shp D (aQv shp K) := by
    intro v2 v4 D h
    unfold J_X12_turnOn_31 at h
    refine Ok.lp (P := fun s => AW G (aRm 7 0 0) M_X12_turnOn fr 0 0 31 [some (.ref 88), none, some (.int v2), none, some (.int (s.1)), none] [] shp s.2 (aQv shp K)) (fun s Kb31 hL31 hR31 h => ?_) (v4, D) (Ok.bind h)
    obtain ⟨v4, D⟩ := s
    replace h : Ok (B_X12_turnOn_31 (N_X12_turnOn 0) v2 v4 D) Kb31 := h
    unfold B_X12_turnOn_31 at h
    refine aw_iload (n := 33) (i := 4) dX12_turnOn_31 rfl rfl ?_
    refine aw_iload_n (n := 34) (i := 2) dX12_turnOn_33 rfl rfl rfl ?_
    refine aw_icmp_ge (n := 37) (tgt := 62) dX12_turnOn_34 rfl (by decide) (fun c => ?_) (fun c => ?_)
    · replace h := Ok.ift h c
      exact aw_le' (hJ_62 D (hR31 D (Ok.dn h :))) trivial
    · replace h := Ok.iff h c
      refine aw_aload_n (n := 38) (i := 0) dX12_turnOn_37 rfl rfl rfl ?_
      refine aw_getR (n := 41) (j := 40) (r := 114) hG.1 fl_RX12_103 (sF_88 hS) rfl dX12_turnOn_38 rfl ?_
      refine aw_iload (n := 43) (i := 4) dX12_turnOn_41 rfl rfl ?_
      refine aw_aload_n (n := 44) (i := 0) dX12_turnOn_43 rfl rfl rfl ?_
      refine aw_getR (n := 47) (j := 28) (r := 106) hG.1 fl_RX12_76 (sF_88 hS) rfl dX12_turnOn_44 rfl ?_
      refine aw_aload_n (n := 48) (i := 0) dX12_turnOn_47 rfl rfl rfl ?_
      refine aw_getR (n := 51) (j := 39) (r := 113) hG.1 fl_RX12_100 (sF_88 hS) rfl dX12_turnOn_48 rfl ?_
      refine aw_iload (n := 53) (i := 4) dX12_turnOn_51 rfl rfl ?_
      obtain ⟨g_16, h⟩ := Ok.gd h
      refine aw_iaload (n := 54) hG.1 (sF_113 hS) (aIn_in g_16) dX12_turnOn_53 rfl ?_
      obtain ⟨g_17, h⟩ := Ok.gd h
      refine aw_iaload (n := 55) hG.1 (sF_106 hS) (aIn_in g_17) dX12_turnOn_54 rfl ?_
      obtain ⟨g_18, h⟩ := Ok.gd h
      obtain ⟨D_19, e_D_19, h⟩ := Ok.let_ h
      refine aw_iastore (n := 56) hG.1 (sF_114 hS) (aIn_in g_18) e_D_19 dX12_turnOn_55 rfl ?_
      obtain ⟨v4_20, e_v4_20, h⟩ := Ok.let_ h
      refine aw_iinc (n := 59) (al' := [some (.ref 88), none, some (.int v2), none, some (.int v4_20), none]) dX12_turnOn_56 rfl rfl e_v4_20 (by decide) rfl ?_
      refine aw_goto (tgt := 31) dX12_turnOn_59 (by decide) ?_
      exact aw_le' (hL31 (v4_20, D_19) (Ok.dn h :)) ⟨rfl, ⟨rfl, ⟨rfl, trivial⟩⟩⟩
  have hJ_121 : ∀ (v3 : Int32) (v4 : Int32) (D : aD), Ok (J_X12_turnOn_121 (N_X12_turnOn 0) v3 v4 D) K → AW G (aRm 7 0 0) M_X12_turnOn fr 0 0 121 [some (.ref 88), none, none, some (.int v3), some (.int v4), none] [] shp D (aQv shp K) := by
    intro v3 v4 D h
    unfold J_X12_turnOn_121 at h
    refine aw_aload_n (n := 122) (i := 0) dX12_turnOn_121 rfl rfl rfl ?_
    refine aw_getR (n := 125) (j := 28) (r := 106) hG.1 fl_RX12_76 (sF_88 hS) rfl dX12_turnOn_122 rfl ?_
    refine aw_iload_n (n := 126) (i := 3) dX12_turnOn_125 rfl rfl rfl ?_
    refine aw_iload (n := 128) (i := 4) dX12_turnOn_126 rfl rfl ?_
    obtain ⟨g_5, h⟩ := Ok.gd h
    obtain ⟨D_6, e_D_6, h⟩ := Ok.let_ h
    refine aw_iastore (n := 129) hG.1 (sF_106 hS) (aIn_in g_5) e_D_6 dX12_turnOn_128 rfl ?_
    exact aw_vret rfl (by decide) (by decide) dX12_turnOn_129 ⟨rfl, rfl, (Ok.dn h :)⟩
  have hJ_81 : ∀ (v1 : Int32) (v2 : Int32) (v3 : Int32) (v4 : Int32) (v5 : Int32) (D : aD), Ok (J_X12_turnOn_81 (N_X12_turnOn 0) v1 v2 v3 v4 v5 D) K → AW G (aRm 7 0 0) M_X12_turnOn fr 0 0 81 [some (.ref 88), some (.int v1), some (.int v2), some (.int v3), some (.int v4), some (.int v5)] [] shp D (aQv shp K) := by
    intro v1 v2 v3 v4 v5 D h
    unfold J_X12_turnOn_81 at h
    refine Ok.lp (P := fun s => AW G (aRm 7 0 0) M_X12_turnOn fr 0 0 81 [some (.ref 88), some (.int v1), some (.int v2), some (.int v3), some (.int v4), some (.int (s.1))] [] shp s.2 (aQv shp K)) (fun s Kb81 hL81 hR81 h => ?_) (v5, D) (Ok.bind h)
    obtain ⟨v5, D⟩ := s
    replace h : Ok (B_X12_turnOn_81 (N_X12_turnOn 0) v1 v2 v3 v4 v5 D) Kb81 := h
    unfold B_X12_turnOn_81 at h
    refine aw_iload (n := 83) (i := 5) dX12_turnOn_81 rfl rfl ?_
    refine aw_iconst (n := 84) (v := 1) dX12_turnOn_83 rfl (by decide) ?_
    refine aw_aload_n (n := 85) (i := 0) dX12_turnOn_84 rfl rfl rfl ?_
    refine aw_getR (n := 88) (j := 10) (r := 98) hG.1 fl_RX12_48 (sF_88 hS) rfl dX12_turnOn_85 rfl ?_
    refine aw_aload_n (n := 89) (i := 0) dX12_turnOn_88 rfl rfl rfl ?_
    refine aw_getR (n := 92) (j := 11) (r := 99) hG.1 fl_RX12_51 (sF_88 hS) rfl dX12_turnOn_89 rfl ?_
    refine aw_iload_n (n := 93) (i := 3) dX12_turnOn_92 rfl rfl rfl ?_
    obtain ⟨g_7, h⟩ := Ok.gd h
    refine aw_iaload (n := 94) hG.1 (sF_99 hS) (aIn_in g_7) dX12_turnOn_93 rfl ?_
    obtain ⟨g_8, h⟩ := Ok.gd h
    refine aw_iaload (n := 95) hG.1 (sF_98 hS) (aIn_in g_8) dX12_turnOn_94 rfl ?_
    refine aw_iadd (n := 96) dX12_turnOn_95 rfl ?_
    refine aw_icmp_gt (n := 99) (tgt := 121) dX12_turnOn_96 rfl (by decide) (fun c => ?_) (fun c => ?_)
    · replace h := Ok.ift h c
      exact aw_le' (hJ_121 v3 v4 D (hR81 D (Ok.dn h :))) ⟨rfl, ⟨rfl, ⟨rfl, trivial⟩⟩⟩
    · replace h := Ok.iff h c
      refine aw_aload_n (n := 100) (i := 0) dX12_turnOn_99 rfl rfl rfl ?_
      refine aw_getR (n := 103) (j := 28) (r := 106) hG.1 fl_RX12_76 (sF_88 hS) rfl dX12_turnOn_100 rfl ?_
      refine aw_iload_n (n := 104) (i := 3) dX12_turnOn_103 rfl rfl rfl ?_
      refine aw_iload (n := 106) (i := 5) dX12_turnOn_104 rfl rfl ?_
      obtain ⟨g_9, h⟩ := Ok.gd h
      obtain ⟨D_10, e_D_10, h⟩ := Ok.let_ h
      refine aw_iastore (n := 107) hG.1 (sF_106 hS) (aIn_in g_9) e_D_10 dX12_turnOn_106 rfl ?_
      refine aw_aload_n (n := 108) (i := 0) dX12_turnOn_107 rfl rfl rfl ?_
      refine aw_iload_n (n := 109) (i := 1) dX12_turnOn_108 rfl rfl rfl ?_
      refine aw_iload_n (n := 110) (i := 2) dX12_turnOn_109 rfl rfl rfl ?_
      refine aw_iconst (n := 111) (v := 1) dX12_turnOn_110 rfl (by decide) ?_
      refine aw_iadd (n := 112) dX12_turnOn_111 rfl ?_
      refine aw_cVv (M := M_X12_turnOn) (n := 115) (As := [.int v1, .int (v2 + 1)]) (rest := []) hG.1 lk_RX12_374 rfl rfl (sF_88 hS) (c_X12_turnOn_L0 hG hS (h := Ok.bind h)) (by decide) (Nat.le_of_ble_eq_true rfl) (by decide) (by decide) dX12_turnOn_112 rfl (fun D_11 h => ?_)
      obtain ⟨v5_12, e_v5_12, h⟩ := Ok.let_ h
      refine aw_iinc (n := 118) (al' := [some (.ref 88), some (.int v1), some (.int v2), some (.int v3), some (.int v4), some (.int v5_12)]) dX12_turnOn_115 rfl rfl e_v5_12 (by decide) rfl ?_
      refine aw_goto (tgt := 81) dX12_turnOn_118 (by decide) ?_
      exact aw_le' (hL81 (v5_12, D_11) (Ok.dn h :)) ⟨rfl, ⟨rfl, ⟨rfl, ⟨rfl, ⟨rfl, ⟨rfl, trivial⟩⟩⟩⟩⟩⟩
  refine aw_iload_n (n := 1) (i := 2) dX12_turnOn_0 rfl rfl rfl ?_
  refine aw_aload_n (n := 2) (i := 0) dX12_turnOn_1 rfl rfl rfl ?_
  refine aw_getI (n := 5) (j := 41) hG.1 fl_RX12_368 (sF_88 hS) rfl dX12_turnOn_2 rfl ?_
  refine aw_icmp_ne (n := 8) (tgt := 63) dX12_turnOn_5 rfl (by decide) (fun c => ?_) (fun c => ?_)
  · replace h := Ok.ift h c
    refine aw_aload_n (n := 64) (i := 0) dX12_turnOn_63 rfl rfl rfl ?_
    refine aw_getR (n := 67) (j := 39) (r := 113) hG.1 fl_RX12_100 (sF_88 hS) rfl dX12_turnOn_64 rfl ?_
    refine aw_iload_n (n := 68) (i := 2) dX12_turnOn_67 rfl rfl rfl ?_
    obtain ⟨g_1, h⟩ := Ok.gd h
    refine aw_iaload (n := 69) hG.1 (sF_113 hS) (aIn_in g_1) dX12_turnOn_68 rfl ?_
    obtain ⟨v3_2, e_v3_2, h⟩ := Ok.let_ h
    refine aw_istore_n (n := 70) (i := 3) (al' := [some (.ref 88), some (.int v1), some (.int v2), some (.int v3_2), none, none]) dX12_turnOn_69 rfl rfl e_v3_2 (by decide) rfl ?_
    refine aw_aload_n (n := 71) (i := 0) dX12_turnOn_70 rfl rfl rfl ?_
    refine aw_getR (n := 74) (j := 28) (r := 106) hG.1 fl_RX12_76 (sF_88 hS) rfl dX12_turnOn_71 rfl ?_
    refine aw_iload_n (n := 75) (i := 3) dX12_turnOn_74 rfl rfl rfl ?_
    obtain ⟨g_3, h⟩ := Ok.gd h
    refine aw_iaload (n := 76) hG.1 (sF_106 hS) (aIn_in g_3) dX12_turnOn_75 rfl ?_
    obtain ⟨v4_4, e_v4_4, h⟩ := Ok.let_ h
    refine aw_istore (n := 78) (i := 4) (al' := [some (.ref 88), some (.int v1), some (.int v2), some (.int v3_2), some (.int v4_4), none]) dX12_turnOn_76 rfl e_v4_4 (by decide) rfl ?_
    refine aw_iconst (n := 79) (v := 0) dX12_turnOn_78 rfl (by decide) ?_
    refine aw_istore (n := 81) (i := 5) (al' := [some (.ref 88), some (.int v1), some (.int v2), some (.int v3_2), some (.int v4_4), some (.int 0)]) dX12_turnOn_79 rfl rfl (by decide) rfl ?_
    exact aw_le' (hJ_81 v1 v2 v3_2 v4_4 0 D h) ⟨rfl, ⟨rfl, ⟨rfl, ⟨rfl, ⟨rfl, ⟨rfl, trivial⟩⟩⟩⟩⟩⟩
  · replace h := Ok.iffn h c
    refine aw_aload_n (n := 9) (i := 0) dX12_turnOn_8 rfl rfl rfl ?_
    refine aw_iload_n (n := 10) (i := 1) dX12_turnOn_9 rfl rfl rfl ?_
    refine aw_cVi (M := M_X12_turnOn) (n := 13) (As := [.int v1]) (rest := []) hG.1 lk_RX12_362 rfl rfl (sF_88 hS) (c_X12_weightsOf hG hS (h := Ok.bi h)) (by decide) (Nat.le_of_ble_eq_true rfl) (by decide) (by decide) dX12_turnOn_10 rfl (fun y_13 D_14 h => ?_)
    refine aw_istore_n (n := 14) (i := 3) (al' := [some (.ref 88), some (.int v1), some (.int v2), some (.int y_13), none, none]) dX12_turnOn_13 rfl rfl rfl (by decide) rfl ?_
    refine aw_iload_n (n := 15) (i := 3) dX12_turnOn_14 rfl rfl rfl ?_
    refine aw_aload_n (n := 16) (i := 0) dX12_turnOn_15 rfl rfl rfl ?_
    refine aw_getI (n := 19) (j := 42) hG.1 fl_RX12_371 (sF_88 hS) rfl dX12_turnOn_16 rfl ?_
    refine aw_icmp_gt (n := 22) (tgt := 23) dX12_turnOn_19 rfl (by decide) (fun c => ?_) (fun c => ?_)
    · replace h := Ok.ift h c
      refine aw_aload_n (n := 24) (i := 0) dX12_turnOn_23 rfl rfl rfl ?_
      refine aw_iload_n (n := 25) (i := 3) dX12_turnOn_24 rfl rfl rfl ?_
      obtain ⟨D_15, e_D_15, h⟩ := Ok.let_ h
      refine aw_putI (n := 28) (j := 42) hG.1 fl_RX12_371 (sF_88 hS) rfl e_D_15 dX12_turnOn_25 rfl ?_
      refine aw_iconst (n := 29) (v := 0) dX12_turnOn_28 rfl (by decide) ?_
      refine aw_istore (n := 31) (i := 4) (al' := [some (.ref 88), some (.int v1), some (.int v2), some (.int y_13), some (.int 0), none]) dX12_turnOn_29 rfl rfl (by decide) rfl ?_
      exact aw_le' (hJ_31 v2 0 D_15 h) ⟨rfl, ⟨rfl, ⟨rfl, trivial⟩⟩⟩
    · replace h := Ok.iff h c
      exact aw_vret rfl (by decide) (by decide) dX12_turnOn_22 ⟨rfl, rfl, (Ok.dn h :)⟩
set_option maxRecDepth 100000 in
set_option maxHeartbeats 800000 in
theorem c_X12_turnOn_L2 {G : aG} (hG : gOK G) {shp : List aSh} (hS : aShp shp) {fr : Option Nat} {v1 : Int32} {v2 : Int32} {D : aD} {K : aD → Prop} (h : Ok (N_X12_turnOn 2 v1 v2 D) K) : AC G (aRm 8 0 0) M_X12_turnOn [.ref 88, .int v1, .int v2] fr shp D (aQv shp K) := by
  replace h : Ok (F_X12_turnOn (N_X12_turnOn 1) v1 v2 D) K := h
  unfold F_X12_turnOn at h
  refine AC.of (al := [some (.ref 88), some (.int v1), some (.int v2), none, none, none]) (r := 3) (by decide) (Nat.le_of_ble_eq_true rfl) rfl ?_
  have hJ_62 : ∀ (D : aD), Ok (J_X12_turnOn_62 (N_X12_turnOn 1) D) K → AW G (aRm 8 0 0) M_X12_turnOn fr 0 0 62 [none, none, none, none, none, none] [] shp D (aQv shp K) := by
    intro D h
    unfold J_X12_turnOn_62 at h
    exact aw_vret rfl (by decide) (by decide) dX12_turnOn_62 ⟨rfl, rfl, (Ok.dn h :)⟩
  have hJ_31 : ∀ (v2 : Int32) (v4 : Int32) (D : aD), Ok (J_X12_turnOn_31 (N_X12_turnOn 1) v2 v4 D) K → AW G (aRm 8 0 0) M_X12_turnOn fr 0 0 31 [some (.ref 88), none, some (.int v2), none, some (.int v4), none] [] shp D (aQv shp K) := by
    intro v2 v4 D h
    unfold J_X12_turnOn_31 at h
    refine Ok.lp (P := fun s => AW G (aRm 8 0 0) M_X12_turnOn fr 0 0 31 [some (.ref 88), none, some (.int v2), none, some (.int (s.1)), none] [] shp s.2 (aQv shp K)) (fun s Kb31 hL31 hR31 h => ?_) (v4, D) (Ok.bind h)
    obtain ⟨v4, D⟩ := s
    replace h : Ok (B_X12_turnOn_31 (N_X12_turnOn 1) v2 v4 D) Kb31 := h
    unfold B_X12_turnOn_31 at h
    refine aw_iload (n := 33) (i := 4) dX12_turnOn_31 rfl rfl ?_
    refine aw_iload_n (n := 34) (i := 2) dX12_turnOn_33 rfl rfl rfl ?_
    refine aw_icmp_ge (n := 37) (tgt := 62) dX12_turnOn_34 rfl (by decide) (fun c => ?_) (fun c => ?_)
    · replace h := Ok.ift h c
      exact aw_le' (hJ_62 D (hR31 D (Ok.dn h :))) trivial
    · replace h := Ok.iff h c
      refine aw_aload_n (n := 38) (i := 0) dX12_turnOn_37 rfl rfl rfl ?_
      refine aw_getR (n := 41) (j := 40) (r := 114) hG.1 fl_RX12_103 (sF_88 hS) rfl dX12_turnOn_38 rfl ?_
      refine aw_iload (n := 43) (i := 4) dX12_turnOn_41 rfl rfl ?_
      refine aw_aload_n (n := 44) (i := 0) dX12_turnOn_43 rfl rfl rfl ?_
      refine aw_getR (n := 47) (j := 28) (r := 106) hG.1 fl_RX12_76 (sF_88 hS) rfl dX12_turnOn_44 rfl ?_
      refine aw_aload_n (n := 48) (i := 0) dX12_turnOn_47 rfl rfl rfl ?_
      refine aw_getR (n := 51) (j := 39) (r := 113) hG.1 fl_RX12_100 (sF_88 hS) rfl dX12_turnOn_48 rfl ?_
      refine aw_iload (n := 53) (i := 4) dX12_turnOn_51 rfl rfl ?_
      obtain ⟨g_16, h⟩ := Ok.gd h
      refine aw_iaload (n := 54) hG.1 (sF_113 hS) (aIn_in g_16) dX12_turnOn_53 rfl ?_
      obtain ⟨g_17, h⟩ := Ok.gd h
      refine aw_iaload (n := 55) hG.1 (sF_106 hS) (aIn_in g_17) dX12_turnOn_54 rfl ?_
      obtain ⟨g_18, h⟩ := Ok.gd h
      obtain ⟨D_19, e_D_19, h⟩ := Ok.let_ h
      refine aw_iastore (n := 56) hG.1 (sF_114 hS) (aIn_in g_18) e_D_19 dX12_turnOn_55 rfl ?_
      obtain ⟨v4_20, e_v4_20, h⟩ := Ok.let_ h
      refine aw_iinc (n := 59) (al' := [some (.ref 88), none, some (.int v2), none, some (.int v4_20), none]) dX12_turnOn_56 rfl rfl e_v4_20 (by decide) rfl ?_
      refine aw_goto (tgt := 31) dX12_turnOn_59 (by decide) ?_
      exact aw_le' (hL31 (v4_20, D_19) (Ok.dn h :)) ⟨rfl, ⟨rfl, ⟨rfl, trivial⟩⟩⟩
  have hJ_121 : ∀ (v3 : Int32) (v4 : Int32) (D : aD), Ok (J_X12_turnOn_121 (N_X12_turnOn 1) v3 v4 D) K → AW G (aRm 8 0 0) M_X12_turnOn fr 0 0 121 [some (.ref 88), none, none, some (.int v3), some (.int v4), none] [] shp D (aQv shp K) := by
    intro v3 v4 D h
    unfold J_X12_turnOn_121 at h
    refine aw_aload_n (n := 122) (i := 0) dX12_turnOn_121 rfl rfl rfl ?_
    refine aw_getR (n := 125) (j := 28) (r := 106) hG.1 fl_RX12_76 (sF_88 hS) rfl dX12_turnOn_122 rfl ?_
    refine aw_iload_n (n := 126) (i := 3) dX12_turnOn_125 rfl rfl rfl ?_
    refine aw_iload (n := 128) (i := 4) dX12_turnOn_126 rfl rfl ?_
    obtain ⟨g_5, h⟩ := Ok.gd h
    obtain ⟨D_6, e_D_6, h⟩ := Ok.let_ h
    refine aw_iastore (n := 129) hG.1 (sF_106 hS) (aIn_in g_5) e_D_6 dX12_turnOn_128 rfl ?_
    exact aw_vret rfl (by decide) (by decide) dX12_turnOn_129 ⟨rfl, rfl, (Ok.dn h :)⟩
  have hJ_81 : ∀ (v1 : Int32) (v2 : Int32) (v3 : Int32) (v4 : Int32) (v5 : Int32) (D : aD), Ok (J_X12_turnOn_81 (N_X12_turnOn 1) v1 v2 v3 v4 v5 D) K → AW G (aRm 8 0 0) M_X12_turnOn fr 0 0 81 [some (.ref 88), some (.int v1), some (.int v2), some (.int v3), some (.int v4), some (.int v5)] [] shp D (aQv shp K) := by
    intro v1 v2 v3 v4 v5 D h
    unfold J_X12_turnOn_81 at h
    refine Ok.lp (P := fun s => AW G (aRm 8 0 0) M_X12_turnOn fr 0 0 81 [some (.ref 88), some (.int v1), some (.int v2), some (.int v3), some (.int v4), some (.int (s.1))] [] shp s.2 (aQv shp K)) (fun s Kb81 hL81 hR81 h => ?_) (v5, D) (Ok.bind h)
    obtain ⟨v5, D⟩ := s
    replace h : Ok (B_X12_turnOn_81 (N_X12_turnOn 1) v1 v2 v3 v4 v5 D) Kb81 := h
    unfold B_X12_turnOn_81 at h
    refine aw_iload (n := 83) (i := 5) dX12_turnOn_81 rfl rfl ?_
    refine aw_iconst (n := 84) (v := 1) dX12_turnOn_83 rfl (by decide) ?_
    refine aw_aload_n (n := 85) (i := 0) dX12_turnOn_84 rfl rfl rfl ?_
    refine aw_getR (n := 88) (j := 10) (r := 98) hG.1 fl_RX12_48 (sF_88 hS) rfl dX12_turnOn_85 rfl ?_
    refine aw_aload_n (n := 89) (i := 0) dX12_turnOn_88 rfl rfl rfl ?_
    refine aw_getR (n := 92) (j := 11) (r := 99) hG.1 fl_RX12_51 (sF_88 hS) rfl dX12_turnOn_89 rfl ?_
    refine aw_iload_n (n := 93) (i := 3) dX12_turnOn_92 rfl rfl rfl ?_
    obtain ⟨g_7, h⟩ := Ok.gd h
    refine aw_iaload (n := 94) hG.1 (sF_99 hS) (aIn_in g_7) dX12_turnOn_93 rfl ?_
    obtain ⟨g_8, h⟩ := Ok.gd h
    refine aw_iaload (n := 95) hG.1 (sF_98 hS) (aIn_in g_8) dX12_turnOn_94 rfl ?_
    refine aw_iadd (n := 96) dX12_turnOn_95 rfl ?_
    refine aw_icmp_gt (n := 99) (tgt := 121) dX12_turnOn_96 rfl (by decide) (fun c => ?_) (fun c => ?_)
    · replace h := Ok.ift h c
      exact aw_le' (hJ_121 v3 v4 D (hR81 D (Ok.dn h :))) ⟨rfl, ⟨rfl, ⟨rfl, trivial⟩⟩⟩
    · replace h := Ok.iff h c
      refine aw_aload_n (n := 100) (i := 0) dX12_turnOn_99 rfl rfl rfl ?_
      refine aw_getR (n := 103) (j := 28) (r := 106) hG.1 fl_RX12_76 (sF_88 hS) rfl dX12_turnOn_100 rfl ?_
      refine aw_iload_n (n := 104) (i := 3) dX12_turnOn_103 rfl rfl rfl ?_
      refine aw_iload (n := 106) (i := 5) dX12_turnOn_104 rfl rfl ?_
      obtain ⟨g_9, h⟩ := Ok.gd h
      obtain ⟨D_10, e_D_10, h⟩ := Ok.let_ h
      refine aw_iastore (n := 107) hG.1 (sF_106 hS) (aIn_in g_9) e_D_10 dX12_turnOn_106 rfl ?_
      refine aw_aload_n (n := 108) (i := 0) dX12_turnOn_107 rfl rfl rfl ?_
      refine aw_iload_n (n := 109) (i := 1) dX12_turnOn_108 rfl rfl rfl ?_
      refine aw_iload_n (n := 110) (i := 2) dX12_turnOn_109 rfl rfl rfl ?_
      refine aw_iconst (n := 111) (v := 1) dX12_turnOn_110 rfl (by decide) ?_
      refine aw_iadd (n := 112) dX12_turnOn_111 rfl ?_
      refine aw_cVv (M := M_X12_turnOn) (n := 115) (As := [.int v1, .int (v2 + 1)]) (rest := []) hG.1 lk_RX12_374 rfl rfl (sF_88 hS) (c_X12_turnOn_L1 hG hS (h := Ok.bind h)) (by decide) (Nat.le_of_ble_eq_true rfl) (by decide) (by decide) dX12_turnOn_112 rfl (fun D_11 h => ?_)
      obtain ⟨v5_12, e_v5_12, h⟩ := Ok.let_ h
      refine aw_iinc (n := 118) (al' := [some (.ref 88), some (.int v1), some (.int v2), some (.int v3), some (.int v4), some (.int v5_12)]) dX12_turnOn_115 rfl rfl e_v5_12 (by decide) rfl ?_
      refine aw_goto (tgt := 81) dX12_turnOn_118 (by decide) ?_
      exact aw_le' (hL81 (v5_12, D_11) (Ok.dn h :)) ⟨rfl, ⟨rfl, ⟨rfl, ⟨rfl, ⟨rfl, ⟨rfl, trivial⟩⟩⟩⟩⟩⟩
  refine aw_iload_n (n := 1) (i := 2) dX12_turnOn_0 rfl rfl rfl ?_
  refine aw_aload_n (n := 2) (i := 0) dX12_turnOn_1 rfl rfl rfl ?_
  refine aw_getI (n := 5) (j := 41) hG.1 fl_RX12_368 (sF_88 hS) rfl dX12_turnOn_2 rfl ?_
  refine aw_icmp_ne (n := 8) (tgt := 63) dX12_turnOn_5 rfl (by decide) (fun c => ?_) (fun c => ?_)
  · replace h := Ok.ift h c
    refine aw_aload_n (n := 64) (i := 0) dX12_turnOn_63 rfl rfl rfl ?_
    refine aw_getR (n := 67) (j := 39) (r := 113) hG.1 fl_RX12_100 (sF_88 hS) rfl dX12_turnOn_64 rfl ?_
    refine aw_iload_n (n := 68) (i := 2) dX12_turnOn_67 rfl rfl rfl ?_
    obtain ⟨g_1, h⟩ := Ok.gd h
    refine aw_iaload (n := 69) hG.1 (sF_113 hS) (aIn_in g_1) dX12_turnOn_68 rfl ?_
    obtain ⟨v3_2, e_v3_2, h⟩ := Ok.let_ h
    refine aw_istore_n (n := 70) (i := 3) (al' := [some (.ref 88), some (.int v1), some (.int v2), some (.int v3_2), none, none]) dX12_turnOn_69 rfl rfl e_v3_2 (by decide) rfl ?_
    refine aw_aload_n (n := 71) (i := 0) dX12_turnOn_70 rfl rfl rfl ?_
    refine aw_getR (n := 74) (j := 28) (r := 106) hG.1 fl_RX12_76 (sF_88 hS) rfl dX12_turnOn_71 rfl ?_
    refine aw_iload_n (n := 75) (i := 3) dX12_turnOn_74 rfl rfl rfl ?_
    obtain ⟨g_3, h⟩ := Ok.gd h
    refine aw_iaload (n := 76) hG.1 (sF_106 hS) (aIn_in g_3) dX12_turnOn_75 rfl ?_
    obtain ⟨v4_4, e_v4_4, h⟩ := Ok.let_ h
    refine aw_istore (n := 78) (i := 4) (al' := [some (.ref 88), some (.int v1), some (.int v2), some (.int v3_2), some (.int v4_4), none]) dX12_turnOn_76 rfl e_v4_4 (by decide) rfl ?_
    refine aw_iconst (n := 79) (v := 0) dX12_turnOn_78 rfl (by decide) ?_
    refine aw_istore (n := 81) (i := 5) (al' := [some (.ref 88), some (.int v1), some (.int v2), some (.int v3_2), some (.int v4_4), some (.int 0)]) dX12_turnOn_79 rfl rfl (by decide) rfl ?_
    exact aw_le' (hJ_81 v1 v2 v3_2 v4_4 0 D h) ⟨rfl, ⟨rfl, ⟨rfl, ⟨rfl, ⟨rfl, ⟨rfl, trivial⟩⟩⟩⟩⟩⟩
  · replace h := Ok.iffn h c
    refine aw_aload_n (n := 9) (i := 0) dX12_turnOn_8 rfl rfl rfl ?_
    refine aw_iload_n (n := 10) (i := 1) dX12_turnOn_9 rfl rfl rfl ?_
    refine aw_cVi (M := M_X12_turnOn) (n := 13) (As := [.int v1]) (rest := []) hG.1 lk_RX12_362 rfl rfl (sF_88 hS) (c_X12_weightsOf hG hS (h := Ok.bi h)) (by decide) (Nat.le_of_ble_eq_true rfl) (by decide) (by decide) dX12_turnOn_10 rfl (fun y_13 D_14 h => ?_)
    refine aw_istore_n (n := 14) (i := 3) (al' := [some (.ref 88), some (.int v1), some (.int v2), some (.int y_13), none, none]) dX12_turnOn_13 rfl rfl rfl (by decide) rfl ?_
    refine aw_iload_n (n := 15) (i := 3) dX12_turnOn_14 rfl rfl rfl ?_
    refine aw_aload_n (n := 16) (i := 0) dX12_turnOn_15 rfl rfl rfl ?_
    refine aw_getI (n := 19) (j := 42) hG.1 fl_RX12_371 (sF_88 hS) rfl dX12_turnOn_16 rfl ?_
    refine aw_icmp_gt (n := 22) (tgt := 23) dX12_turnOn_19 rfl (by decide) (fun c => ?_) (fun c => ?_)
    · replace h := Ok.ift h c
      refine aw_aload_n (n := 24) (i := 0) dX12_turnOn_23 rfl rfl rfl ?_
      refine aw_iload_n (n := 25) (i := 3) dX12_turnOn_24 rfl rfl rfl ?_
      obtain ⟨D_15, e_D_15, h⟩ := Ok.let_ h
      refine aw_putI (n := 28) (j := 42) hG.1 fl_RX12_371 (sF_88 hS) rfl e_D_15 dX12_turnOn_25 rfl ?_
      refine aw_iconst (n := 29) (v := 0) dX12_turnOn_28 rfl (by decide) ?_
      refine aw_istore (n := 31) (i := 4) (al' := [some (.ref 88), some (.int v1), some (.int v2), some (.int y_13), some (.int 0), none]) dX12_turnOn_29 rfl rfl (by decide) rfl ?_
      exact aw_le' (hJ_31 v2 0 D_15 h) ⟨rfl, ⟨rfl, ⟨rfl, trivial⟩⟩⟩
    · replace h := Ok.iff h c
      exact aw_vret rfl (by decide) (by decide) dX12_turnOn_22 ⟨rfl, rfl, (Ok.dn h :)⟩
set_option maxRecDepth 100000 in
set_option maxHeartbeats 800000 in
theorem c_X12_turnOn_L3 {G : aG} (hG : gOK G) {shp : List aSh} (hS : aShp shp) {fr : Option Nat} {v1 : Int32} {v2 : Int32} {D : aD} {K : aD → Prop} (h : Ok (N_X12_turnOn 3 v1 v2 D) K) : AC G (aRm 9 0 0) M_X12_turnOn [.ref 88, .int v1, .int v2] fr shp D (aQv shp K) := by
  replace h : Ok (F_X12_turnOn (N_X12_turnOn 2) v1 v2 D) K := h
  unfold F_X12_turnOn at h
  refine AC.of (al := [some (.ref 88), some (.int v1), some (.int v2), none, none, none]) (r := 3) (by decide) (Nat.le_of_ble_eq_true rfl) rfl ?_
  have hJ_62 : ∀ (D : aD), Ok (J_X12_turnOn_62 (N_X12_turnOn 2) D) K → AW G (aRm 9 0 0) M_X12_turnOn fr 0 0 62 [none, none, none, none, none, none] [] shp D (aQv shp K) := by
    intro D h
    unfold J_X12_turnOn_62 at h
    exact aw_vret rfl (by decide) (by decide) dX12_turnOn_62 ⟨rfl, rfl, (Ok.dn h :)⟩
  have hJ_31 : ∀ (v2 : Int32) (v4 : Int32) (D : aD), Ok (J_X12_turnOn_31 (N_X12_turnOn 2) v2 v4 D) K → AW G (aRm 9 0 0) M_X12_turnOn fr 0 0 31 [some (.ref 88), none, some (.int v2), none, some (.int v4), none] [] shp D (aQv shp K) := by
    intro v2 v4 D h
    unfold J_X12_turnOn_31 at h
    refine Ok.lp (P := fun s => AW G (aRm 9 0 0) M_X12_turnOn fr 0 0 31 [some (.ref 88), none, some (.int v2), none, some (.int (s.1)), none] [] shp s.2 (aQv shp K)) (fun s Kb31 hL31 hR31 h => ?_) (v4, D) (Ok.bind h)
    obtain ⟨v4, D⟩ := s
    replace h : Ok (B_X12_turnOn_31 (N_X12_turnOn 2) v2 v4 D) Kb31 := h
    unfold B_X12_turnOn_31 at h
    refine aw_iload (n := 33) (i := 4) dX12_turnOn_31 rfl rfl ?_
    refine aw_iload_n (n := 34) (i := 2) dX12_turnOn_33 rfl rfl rfl ?_
    refine aw_icmp_ge (n := 37) (tgt := 62) dX12_turnOn_34 rfl (by decide) (fun c => ?_) (fun c => ?_)
    · replace h := Ok.ift h c
      exact aw_le' (hJ_62 D (hR31 D (Ok.dn h :))) trivial
    · replace h := Ok.iff h c
      refine aw_aload_n (n := 38) (i := 0) dX12_turnOn_37 rfl rfl rfl ?_
      refine aw_getR (n := 41) (j := 40) (r := 114) hG.1 fl_RX12_103 (sF_88 hS) rfl dX12_turnOn_38 rfl ?_
      refine aw_iload (n := 43) (i := 4) dX12_turnOn_41 rfl rfl ?_
      refine aw_aload_n (n := 44) (i := 0) dX12_turnOn_43 rfl rfl rfl ?_
      refine aw_getR (n := 47) (j := 28) (r := 106) hG.1 fl_RX12_76 (sF_88 hS) rfl dX12_turnOn_44 rfl ?_
      refine aw_aload_n (n := 48) (i := 0) dX12_turnOn_47 rfl rfl rfl ?_
      refine aw_getR (n := 51) (j := 39) (r := 113) hG.1 fl_RX12_100 (sF_88 hS) rfl dX12_turnOn_48 rfl ?_
      refine aw_iload (n := 53) (i := 4) dX12_turnOn_51 rfl rfl ?_
      obtain ⟨g_16, h⟩ := Ok.gd h
      refine aw_iaload (n := 54) hG.1 (sF_113 hS) (aIn_in g_16) dX12_turnOn_53 rfl ?_
      obtain ⟨g_17, h⟩ := Ok.gd h
      refine aw_iaload (n := 55) hG.1 (sF_106 hS) (aIn_in g_17) dX12_turnOn_54 rfl ?_
      obtain ⟨g_18, h⟩ := Ok.gd h
      obtain ⟨D_19, e_D_19, h⟩ := Ok.let_ h
      refine aw_iastore (n := 56) hG.1 (sF_114 hS) (aIn_in g_18) e_D_19 dX12_turnOn_55 rfl ?_
      obtain ⟨v4_20, e_v4_20, h⟩ := Ok.let_ h
      refine aw_iinc (n := 59) (al' := [some (.ref 88), none, some (.int v2), none, some (.int v4_20), none]) dX12_turnOn_56 rfl rfl e_v4_20 (by decide) rfl ?_
      refine aw_goto (tgt := 31) dX12_turnOn_59 (by decide) ?_
      exact aw_le' (hL31 (v4_20, D_19) (Ok.dn h :)) ⟨rfl, ⟨rfl, ⟨rfl, trivial⟩⟩⟩
  have hJ_121 : ∀ (v3 : Int32) (v4 : Int32) (D : aD), Ok (J_X12_turnOn_121 (N_X12_turnOn 2) v3 v4 D) K → AW G (aRm 9 0 0) M_X12_turnOn fr 0 0 121 [some (.ref 88), none, none, some (.int v3), some (.int v4), none] [] shp D (aQv shp K) := by
    intro v3 v4 D h
    unfold J_X12_turnOn_121 at h
    refine aw_aload_n (n := 122) (i := 0) dX12_turnOn_121 rfl rfl rfl ?_
    refine aw_getR (n := 125) (j := 28) (r := 106) hG.1 fl_RX12_76 (sF_88 hS) rfl dX12_turnOn_122 rfl ?_
    refine aw_iload_n (n := 126) (i := 3) dX12_turnOn_125 rfl rfl rfl ?_
    refine aw_iload (n := 128) (i := 4) dX12_turnOn_126 rfl rfl ?_
    obtain ⟨g_5, h⟩ := Ok.gd h
    obtain ⟨D_6, e_D_6, h⟩ := Ok.let_ h
    refine aw_iastore (n := 129) hG.1 (sF_106 hS) (aIn_in g_5) e_D_6 dX12_turnOn_128 rfl ?_
    exact aw_vret rfl (by decide) (by decide) dX12_turnOn_129 ⟨rfl, rfl, (Ok.dn h :)⟩
  have hJ_81 : ∀ (v1 : Int32) (v2 : Int32) (v3 : Int32) (v4 : Int32) (v5 : Int32) (D : aD), Ok (J_X12_turnOn_81 (N_X12_turnOn 2) v1 v2 v3 v4 v5 D) K → AW G (aRm 9 0 0) M_X12_turnOn fr 0 0 81 [some (.ref 88), some (.int v1), some (.int v2), some (.int v3), some (.int v4), some (.int v5)] [] shp D (aQv shp K) := by
    intro v1 v2 v3 v4 v5 D h
    unfold J_X12_turnOn_81 at h
    refine Ok.lp (P := fun s => AW G (aRm 9 0 0) M_X12_turnOn fr 0 0 81 [some (.ref 88), some (.int v1), some (.int v2), some (.int v3), some (.int v4), some (.int (s.1))] [] shp s.2 (aQv shp K)) (fun s Kb81 hL81 hR81 h => ?_) (v5, D) (Ok.bind h)
    obtain ⟨v5, D⟩ := s
    replace h : Ok (B_X12_turnOn_81 (N_X12_turnOn 2) v1 v2 v3 v4 v5 D) Kb81 := h
    unfold B_X12_turnOn_81 at h
    refine aw_iload (n := 83) (i := 5) dX12_turnOn_81 rfl rfl ?_
    refine aw_iconst (n := 84) (v := 1) dX12_turnOn_83 rfl (by decide) ?_
    refine aw_aload_n (n := 85) (i := 0) dX12_turnOn_84 rfl rfl rfl ?_
    refine aw_getR (n := 88) (j := 10) (r := 98) hG.1 fl_RX12_48 (sF_88 hS) rfl dX12_turnOn_85 rfl ?_
    refine aw_aload_n (n := 89) (i := 0) dX12_turnOn_88 rfl rfl rfl ?_
    refine aw_getR (n := 92) (j := 11) (r := 99) hG.1 fl_RX12_51 (sF_88 hS) rfl dX12_turnOn_89 rfl ?_
    refine aw_iload_n (n := 93) (i := 3) dX12_turnOn_92 rfl rfl rfl ?_
    obtain ⟨g_7, h⟩ := Ok.gd h
    refine aw_iaload (n := 94) hG.1 (sF_99 hS) (aIn_in g_7) dX12_turnOn_93 rfl ?_
    obtain ⟨g_8, h⟩ := Ok.gd h
    refine aw_iaload (n := 95) hG.1 (sF_98 hS) (aIn_in g_8) dX12_turnOn_94 rfl ?_
    refine aw_iadd (n := 96) dX12_turnOn_95 rfl ?_
    refine aw_icmp_gt (n := 99) (tgt := 121) dX12_turnOn_96 rfl (by decide) (fun c => ?_) (fun c => ?_)
    · replace h := Ok.ift h c
      exact aw_le' (hJ_121 v3 v4 D (hR81 D (Ok.dn h :))) ⟨rfl, ⟨rfl, ⟨rfl, trivial⟩⟩⟩
    · replace h := Ok.iff h c
      refine aw_aload_n (n := 100) (i := 0) dX12_turnOn_99 rfl rfl rfl ?_
      refine aw_getR (n := 103) (j := 28) (r := 106) hG.1 fl_RX12_76 (sF_88 hS) rfl dX12_turnOn_100 rfl ?_
      refine aw_iload_n (n := 104) (i := 3) dX12_turnOn_103 rfl rfl rfl ?_
      refine aw_iload (n := 106) (i := 5) dX12_turnOn_104 rfl rfl ?_
      obtain ⟨g_9, h⟩ := Ok.gd h
      obtain ⟨D_10, e_D_10, h⟩ := Ok.let_ h
      refine aw_iastore (n := 107) hG.1 (sF_106 hS) (aIn_in g_9) e_D_10 dX12_turnOn_106 rfl ?_
      refine aw_aload_n (n := 108) (i := 0) dX12_turnOn_107 rfl rfl rfl ?_
      refine aw_iload_n (n := 109) (i := 1) dX12_turnOn_108 rfl rfl rfl ?_
      refine aw_iload_n (n := 110) (i := 2) dX12_turnOn_109 rfl rfl rfl ?_
      refine aw_iconst (n := 111) (v := 1) dX12_turnOn_110 rfl (by decide) ?_
      refine aw_iadd (n := 112) dX12_turnOn_111 rfl ?_
      refine aw_cVv (M := M_X12_turnOn) (n := 115) (As := [.int v1, .int (v2 + 1)]) (rest := []) hG.1 lk_RX12_374 rfl rfl (sF_88 hS) (c_X12_turnOn_L2 hG hS (h := Ok.bind h)) (by decide) (Nat.le_of_ble_eq_true rfl) (by decide) (by decide) dX12_turnOn_112 rfl (fun D_11 h => ?_)
      obtain ⟨v5_12, e_v5_12, h⟩ := Ok.let_ h
      refine aw_iinc (n := 118) (al' := [some (.ref 88), some (.int v1), some (.int v2), some (.int v3), some (.int v4), some (.int v5_12)]) dX12_turnOn_115 rfl rfl e_v5_12 (by decide) rfl ?_
      refine aw_goto (tgt := 81) dX12_turnOn_118 (by decide) ?_
      exact aw_le' (hL81 (v5_12, D_11) (Ok.dn h :)) ⟨rfl, ⟨rfl, ⟨rfl, ⟨rfl, ⟨rfl, ⟨rfl, trivial⟩⟩⟩⟩⟩⟩
  refine aw_iload_n (n := 1) (i := 2) dX12_turnOn_0 rfl rfl rfl ?_
  refine aw_aload_n (n := 2) (i := 0) dX12_turnOn_1 rfl rfl rfl ?_
  refine aw_getI (n := 5) (j := 41) hG.1 fl_RX12_368 (sF_88 hS) rfl dX12_turnOn_2 rfl ?_
  refine aw_icmp_ne (n := 8) (tgt := 63) dX12_turnOn_5 rfl (by decide) (fun c => ?_) (fun c => ?_)
  · replace h := Ok.ift h c
    refine aw_aload_n (n := 64) (i := 0) dX12_turnOn_63 rfl rfl rfl ?_
    refine aw_getR (n := 67) (j := 39) (r := 113) hG.1 fl_RX12_100 (sF_88 hS) rfl dX12_turnOn_64 rfl ?_
    refine aw_iload_n (n := 68) (i := 2) dX12_turnOn_67 rfl rfl rfl ?_
    obtain ⟨g_1, h⟩ := Ok.gd h
    refine aw_iaload (n := 69) hG.1 (sF_113 hS) (aIn_in g_1) dX12_turnOn_68 rfl ?_
    obtain ⟨v3_2, e_v3_2, h⟩ := Ok.let_ h
    refine aw_istore_n (n := 70) (i := 3) (al' := [some (.ref 88), some (.int v1), some (.int v2), some (.int v3_2), none, none]) dX12_turnOn_69 rfl rfl e_v3_2 (by decide) rfl ?_
    refine aw_aload_n (n := 71) (i := 0) dX12_turnOn_70 rfl rfl rfl ?_
    refine aw_getR (n := 74) (j := 28) (r := 106) hG.1 fl_RX12_76 (sF_88 hS) rfl dX12_turnOn_71 rfl ?_
    refine aw_iload_n (n := 75) (i := 3) dX12_turnOn_74 rfl rfl rfl ?_
    obtain ⟨g_3, h⟩ := Ok.gd h
    refine aw_iaload (n := 76) hG.1 (sF_106 hS) (aIn_in g_3) dX12_turnOn_75 rfl ?_
    obtain ⟨v4_4, e_v4_4, h⟩ := Ok.let_ h
    refine aw_istore (n := 78) (i := 4) (al' := [some (.ref 88), some (.int v1), some (.int v2), some (.int v3_2), some (.int v4_4), none]) dX12_turnOn_76 rfl e_v4_4 (by decide) rfl ?_
    refine aw_iconst (n := 79) (v := 0) dX12_turnOn_78 rfl (by decide) ?_
    refine aw_istore (n := 81) (i := 5) (al' := [some (.ref 88), some (.int v1), some (.int v2), some (.int v3_2), some (.int v4_4), some (.int 0)]) dX12_turnOn_79 rfl rfl (by decide) rfl ?_
    exact aw_le' (hJ_81 v1 v2 v3_2 v4_4 0 D h) ⟨rfl, ⟨rfl, ⟨rfl, ⟨rfl, ⟨rfl, ⟨rfl, trivial⟩⟩⟩⟩⟩⟩
  · replace h := Ok.iffn h c
    refine aw_aload_n (n := 9) (i := 0) dX12_turnOn_8 rfl rfl rfl ?_
    refine aw_iload_n (n := 10) (i := 1) dX12_turnOn_9 rfl rfl rfl ?_
    refine aw_cVi (M := M_X12_turnOn) (n := 13) (As := [.int v1]) (rest := []) hG.1 lk_RX12_362 rfl rfl (sF_88 hS) (c_X12_weightsOf hG hS (h := Ok.bi h)) (by decide) (Nat.le_of_ble_eq_true rfl) (by decide) (by decide) dX12_turnOn_10 rfl (fun y_13 D_14 h => ?_)
    refine aw_istore_n (n := 14) (i := 3) (al' := [some (.ref 88), some (.int v1), some (.int v2), some (.int y_13), none, none]) dX12_turnOn_13 rfl rfl rfl (by decide) rfl ?_
    refine aw_iload_n (n := 15) (i := 3) dX12_turnOn_14 rfl rfl rfl ?_
    refine aw_aload_n (n := 16) (i := 0) dX12_turnOn_15 rfl rfl rfl ?_
    refine aw_getI (n := 19) (j := 42) hG.1 fl_RX12_371 (sF_88 hS) rfl dX12_turnOn_16 rfl ?_
    refine aw_icmp_gt (n := 22) (tgt := 23) dX12_turnOn_19 rfl (by decide) (fun c => ?_) (fun c => ?_)
    · replace h := Ok.ift h c
      refine aw_aload_n (n := 24) (i := 0) dX12_turnOn_23 rfl rfl rfl ?_
      refine aw_iload_n (n := 25) (i := 3) dX12_turnOn_24 rfl rfl rfl ?_
      obtain ⟨D_15, e_D_15, h⟩ := Ok.let_ h
      refine aw_putI (n := 28) (j := 42) hG.1 fl_RX12_371 (sF_88 hS) rfl e_D_15 dX12_turnOn_25 rfl ?_
      refine aw_iconst (n := 29) (v := 0) dX12_turnOn_28 rfl (by decide) ?_
      refine aw_istore (n := 31) (i := 4) (al' := [some (.ref 88), some (.int v1), some (.int v2), some (.int y_13), some (.int 0), none]) dX12_turnOn_29 rfl rfl (by decide) rfl ?_
      exact aw_le' (hJ_31 v2 0 D_15 h) ⟨rfl, ⟨rfl, ⟨rfl, trivial⟩⟩⟩
    · replace h := Ok.iff h c
      exact aw_vret rfl (by decide) (by decide) dX12_turnOn_22 ⟨rfl, rfl, (Ok.dn h :)⟩
set_option maxRecDepth 100000 in
set_option maxHeartbeats 800000 in
theorem c_X12_turnOn_L4 {G : aG} (hG : gOK G) {shp : List aSh} (hS : aShp shp) {fr : Option Nat} {v1 : Int32} {v2 : Int32} {D : aD} {K : aD → Prop} (h : Ok (N_X12_turnOn 4 v1 v2 D) K) : AC G (aRm 10 0 0) M_X12_turnOn [.ref 88, .int v1, .int v2] fr shp D (aQv shp K) := by
  replace h : Ok (F_X12_turnOn (N_X12_turnOn 3) v1 v2 D) K := h
  unfold F_X12_turnOn at h
  refine AC.of (al := [some (.ref 88), some (.int v1), some (.int v2), none, none, none]) (r := 3) (by decide) (Nat.le_of_ble_eq_true rfl) rfl ?_
  have hJ_62 : ∀ (D : aD), Ok (J_X12_turnOn_62 (N_X12_turnOn 3) D) K → AW G (aRm 10 0 0) M_X12_turnOn fr 0 0 62 [none, none, none, none, none, none] [] shp D (aQv shp K) := by
    intro D h
    unfold J_X12_turnOn_62 at h
    exact aw_vret rfl (by decide) (by decide) dX12_turnOn_62 ⟨rfl, rfl, (Ok.dn h :)⟩
  have hJ_31 : ∀ (v2 : Int32) (v4 : Int32) (D : aD), Ok (J_X12_turnOn_31 (N_X12_turnOn 3) v2 v4 D) K → AW G (aRm 10 0 0) M_X12_turnOn fr 0 0 31 [some (.ref 88), none, some (.int v2), none, some (.int v4), none] [] shp D (aQv shp K) := by
    intro v2 v4 D h
    unfold J_X12_turnOn_31 at h
    refine Ok.lp (P := fun s => AW G (aRm 10 0 0) M_X12_turnOn fr 0 0 31 [some (.ref 88), none, some (.int v2), none, some (.int (s.1)), none] [] shp s.2 (aQv shp K)) (fun s Kb31 hL31 hR31 h => ?_) (v4, D) (Ok.bind h)
    obtain ⟨v4, D⟩ := s
    replace h : Ok (B_X12_turnOn_31 (N_X12_turnOn 3) v2 v4 D) Kb31 := h
    unfold B_X12_turnOn_31 at h
    refine aw_iload (n := 33) (i := 4) dX12_turnOn_31 rfl rfl ?_
    refine aw_iload_n (n := 34) (i := 2) dX12_turnOn_33 rfl rfl rfl ?_
    refine aw_icmp_ge (n := 37) (tgt := 62) dX12_turnOn_34 rfl (by decide) (fun c => ?_) (fun c => ?_)
    · replace h := Ok.ift h c
      exact aw_le' (hJ_62 D (hR31 D (Ok.dn h :))) trivial
    · replace h := Ok.iff h c
      refine aw_aload_n (n := 38) (i := 0) dX12_turnOn_37 rfl rfl rfl ?_
      refine aw_getR (n := 41) (j := 40) (r := 114) hG.1 fl_RX12_103 (sF_88 hS) rfl dX12_turnOn_38 rfl ?_
      refine aw_iload (n := 43) (i := 4) dX12_turnOn_41 rfl rfl ?_
      refine aw_aload_n (n := 44) (i := 0) dX12_turnOn_43 rfl rfl rfl ?_
      refine aw_getR (n := 47) (j := 28) (r := 106) hG.1 fl_RX12_76 (sF_88 hS) rfl dX12_turnOn_44 rfl ?_
      refine aw_aload_n (n := 48) (i := 0) dX12_turnOn_47 rfl rfl rfl ?_
      refine aw_getR (n := 51) (j := 39) (r := 113) hG.1 fl_RX12_100 (sF_88 hS) rfl dX12_turnOn_48 rfl ?_
      refine aw_iload (n := 53) (i := 4) dX12_turnOn_51 rfl rfl ?_
      obtain ⟨g_16, h⟩ := Ok.gd h
      refine aw_iaload (n := 54) hG.1 (sF_113 hS) (aIn_in g_16) dX12_turnOn_53 rfl ?_
      obtain ⟨g_17, h⟩ := Ok.gd h
      refine aw_iaload (n := 55) hG.1 (sF_106 hS) (aIn_in g_17) dX12_turnOn_54 rfl ?_
      obtain ⟨g_18, h⟩ := Ok.gd h
      obtain ⟨D_19, e_D_19, h⟩ := Ok.let_ h
      refine aw_iastore (n := 56) hG.1 (sF_114 hS) (aIn_in g_18) e_D_19 dX12_turnOn_55 rfl ?_
      obtain ⟨v4_20, e_v4_20, h⟩ := Ok.let_ h
      refine aw_iinc (n := 59) (al' := [some (.ref 88), none, some (.int v2), none, some (.int v4_20), none]) dX12_turnOn_56 rfl rfl e_v4_20 (by decide) rfl ?_
      refine aw_goto (tgt := 31) dX12_turnOn_59 (by decide) ?_
      exact aw_le' (hL31 (v4_20, D_19) (Ok.dn h :)) ⟨rfl, ⟨rfl, ⟨rfl, trivial⟩⟩⟩
  have hJ_121 : ∀ (v3 : Int32) (v4 : Int32) (D : aD), Ok (J_X12_turnOn_121 (N_X12_turnOn 3) v3 v4 D) K → AW G (aRm 10 0 0) M_X12_turnOn fr 0 0 121 [some (.ref 88), none, none, some (.int v3), some (.int v4), none] [] shp D (aQv shp K) := by
    intro v3 v4 D h
    unfold J_X12_turnOn_121 at h
    refine aw_aload_n (n := 122) (i := 0) dX12_turnOn_121 rfl rfl rfl ?_
    refine aw_getR (n := 125) (j := 28) (r := 106) hG.1 fl_RX12_76 (sF_88 hS) rfl dX12_turnOn_122 rfl ?_
    refine aw_iload_n (n := 126) (i := 3) dX12_turnOn_125 rfl rfl rfl ?_
    refine aw_iload (n := 128) (i := 4) dX12_turnOn_126 rfl rfl ?_
    obtain ⟨g_5, h⟩ := Ok.gd h
    obtain ⟨D_6, e_D_6, h⟩ := Ok.let_ h
    refine aw_iastore (n := 129) hG.1 (sF_106 hS) (aIn_in g_5) e_D_6 dX12_turnOn_128 rfl ?_
    exact aw_vret rfl (by decide) (by decide) dX12_turnOn_129 ⟨rfl, rfl, (Ok.dn h :)⟩
  have hJ_81 : ∀ (v1 : Int32) (v2 : Int32) (v3 : Int32) (v4 : Int32) (v5 : Int32) (D : aD), Ok (J_X12_turnOn_81 (N_X12_turnOn 3) v1 v2 v3 v4 v5 D) K → AW G (aRm 10 0 0) M_X12_turnOn fr 0 0 81 [some (.ref 88), some (.int v1), some (.int v2), some (.int v3), some (.int v4), some (.int v5)] [] shp D (aQv shp K) := by
    intro v1 v2 v3 v4 v5 D h
    unfold J_X12_turnOn_81 at h
    refine Ok.lp (P := fun s => AW G (aRm 10 0 0) M_X12_turnOn fr 0 0 81 [some (.ref 88), some (.int v1), some (.int v2), some (.int v3), some (.int v4), some (.int (s.1))] [] shp s.2 (aQv shp K)) (fun s Kb81 hL81 hR81 h => ?_) (v5, D) (Ok.bind h)
    obtain ⟨v5, D⟩ := s
    replace h : Ok (B_X12_turnOn_81 (N_X12_turnOn 3) v1 v2 v3 v4 v5 D) Kb81 := h
    unfold B_X12_turnOn_81 at h
    refine aw_iload (n := 83) (i := 5) dX12_turnOn_81 rfl rfl ?_
    refine aw_iconst (n := 84) (v := 1) dX12_turnOn_83 rfl (by decide) ?_
    refine aw_aload_n (n := 85) (i := 0) dX12_turnOn_84 rfl rfl rfl ?_
    refine aw_getR (n := 88) (j := 10) (r := 98) hG.1 fl_RX12_48 (sF_88 hS) rfl dX12_turnOn_85 rfl ?_
    refine aw_aload_n (n := 89) (i := 0) dX12_turnOn_88 rfl rfl rfl ?_
    refine aw_getR (n := 92) (j := 11) (r := 99) hG.1 fl_RX12_51 (sF_88 hS) rfl dX12_turnOn_89 rfl ?_
    refine aw_iload_n (n := 93) (i := 3) dX12_turnOn_92 rfl rfl rfl ?_
    obtain ⟨g_7, h⟩ := Ok.gd h
    refine aw_iaload (n := 94) hG.1 (sF_99 hS) (aIn_in g_7) dX12_turnOn_93 rfl ?_
    obtain ⟨g_8, h⟩ := Ok.gd h
    refine aw_iaload (n := 95) hG.1 (sF_98 hS) (aIn_in g_8) dX12_turnOn_94 rfl ?_
    refine aw_iadd (n := 96) dX12_turnOn_95 rfl ?_
    refine aw_icmp_gt (n := 99) (tgt := 121) dX12_turnOn_96 rfl (by decide) (fun c => ?_) (fun c => ?_)
    · replace h := Ok.ift h c
      exact aw_le' (hJ_121 v3 v4 D (hR81 D (Ok.dn h :))) ⟨rfl, ⟨rfl, ⟨rfl, trivial⟩⟩⟩
    · replace h := Ok.iff h c
      refine aw_aload_n (n := 100) (i := 0) dX12_turnOn_99 rfl rfl rfl ?_
      refine aw_getR (n := 103) (j := 28) (r := 106) hG.1 fl_RX12_76 (sF_88 hS) rfl dX12_turnOn_100 rfl ?_
      refine aw_iload_n (n := 104) (i := 3) dX12_turnOn_103 rfl rfl rfl ?_
      refine aw_iload (n := 106) (i := 5) dX12_turnOn_104 rfl rfl ?_
      obtain ⟨g_9, h⟩ := Ok.gd h
      obtain ⟨D_10, e_D_10, h⟩ := Ok.let_ h
      refine aw_iastore (n := 107) hG.1 (sF_106 hS) (aIn_in g_9) e_D_10 dX12_turnOn_106 rfl ?_
      refine aw_aload_n (n := 108) (i := 0) dX12_turnOn_107 rfl rfl rfl ?_
      refine aw_iload_n (n := 109) (i := 1) dX12_turnOn_108 rfl rfl rfl ?_
      refine aw_iload_n (n := 110) (i := 2) dX12_turnOn_109 rfl rfl rfl ?_
      refine aw_iconst (n := 111) (v := 1) dX12_turnOn_110 rfl (by decide) ?_
      refine aw_iadd (n := 112) dX12_turnOn_111 rfl ?_
      refine aw_cVv (M := M_X12_turnOn) (n := 115) (As := [.int v1, .int (v2 + 1)]) (rest := []) hG.1 lk_RX12_374 rfl rfl (sF_88 hS) (c_X12_turnOn_L3 hG hS (h := Ok.bind h)) (by decide) (Nat.le_of_ble_eq_true rfl) (by decide) (by decide) dX12_turnOn_112 rfl (fun D_11 h => ?_)
      obtain ⟨v5_12, e_v5_12, h⟩ := Ok.let_ h
      refine aw_iinc (n := 118) (al' := [some (.ref 88), some (.int v1), some (.int v2), some (.int v3), some (.int v4), some (.int v5_12)]) dX12_turnOn_115 rfl rfl e_v5_12 (by decide) rfl ?_
      refine aw_goto (tgt := 81) dX12_turnOn_118 (by decide) ?_
      exact aw_le' (hL81 (v5_12, D_11) (Ok.dn h :)) ⟨rfl, ⟨rfl, ⟨rfl, ⟨rfl, ⟨rfl, ⟨rfl, trivial⟩⟩⟩⟩⟩⟩
  refine aw_iload_n (n := 1) (i := 2) dX12_turnOn_0 rfl rfl rfl ?_
  refine aw_aload_n (n := 2) (i := 0) dX12_turnOn_1 rfl rfl rfl ?_
  refine aw_getI (n := 5) (j := 41) hG.1 fl_RX12_368 (sF_88 hS) rfl dX12_turnOn_2 rfl ?_
  refine aw_icmp_ne (n := 8) (tgt := 63) dX12_turnOn_5 rfl (by decide) (fun c => ?_) (fun c => ?_)
  · replace h := Ok.ift h c
    refine aw_aload_n (n := 64) (i := 0) dX12_turnOn_63 rfl rfl rfl ?_
    refine aw_getR (n := 67) (j := 39) (r := 113) hG.1 fl_RX12_100 (sF_88 hS) rfl dX12_turnOn_64 rfl ?_
    refine aw_iload_n (n := 68) (i := 2) dX12_turnOn_67 rfl rfl rfl ?_
    obtain ⟨g_1, h⟩ := Ok.gd h
    refine aw_iaload (n := 69) hG.1 (sF_113 hS) (aIn_in g_1) dX12_turnOn_68 rfl ?_
    obtain ⟨v3_2, e_v3_2, h⟩ := Ok.let_ h
    refine aw_istore_n (n := 70) (i := 3) (al' := [some (.ref 88), some (.int v1), some (.int v2), some (.int v3_2), none, none]) dX12_turnOn_69 rfl rfl e_v3_2 (by decide) rfl ?_
    refine aw_aload_n (n := 71) (i := 0) dX12_turnOn_70 rfl rfl rfl ?_
    refine aw_getR (n := 74) (j := 28) (r := 106) hG.1 fl_RX12_76 (sF_88 hS) rfl dX12_turnOn_71 rfl ?_
    refine aw_iload_n (n := 75) (i := 3) dX12_turnOn_74 rfl rfl rfl ?_
    obtain ⟨g_3, h⟩ := Ok.gd h
    refine aw_iaload (n := 76) hG.1 (sF_106 hS) (aIn_in g_3) dX12_turnOn_75 rfl ?_
    obtain ⟨v4_4, e_v4_4, h⟩ := Ok.let_ h
    refine aw_istore (n := 78) (i := 4) (al' := [some (.ref 88), some (.int v1), some (.int v2), some (.int v3_2), some (.int v4_4), none]) dX12_turnOn_76 rfl e_v4_4 (by decide) rfl ?_
    refine aw_iconst (n := 79) (v := 0) dX12_turnOn_78 rfl (by decide) ?_
    refine aw_istore (n := 81) (i := 5) (al' := [some (.ref 88), some (.int v1), some (.int v2), some (.int v3_2), some (.int v4_4), some (.int 0)]) dX12_turnOn_79 rfl rfl (by decide) rfl ?_
    exact aw_le' (hJ_81 v1 v2 v3_2 v4_4 0 D h) ⟨rfl, ⟨rfl, ⟨rfl, ⟨rfl, ⟨rfl, ⟨rfl, trivial⟩⟩⟩⟩⟩⟩
  · replace h := Ok.iffn h c
    refine aw_aload_n (n := 9) (i := 0) dX12_turnOn_8 rfl rfl rfl ?_
    refine aw_iload_n (n := 10) (i := 1) dX12_turnOn_9 rfl rfl rfl ?_
    refine aw_cVi (M := M_X12_turnOn) (n := 13) (As := [.int v1]) (rest := []) hG.1 lk_RX12_362 rfl rfl (sF_88 hS) (c_X12_weightsOf hG hS (h := Ok.bi h)) (by decide) (Nat.le_of_ble_eq_true rfl) (by decide) (by decide) dX12_turnOn_10 rfl (fun y_13 D_14 h => ?_)
    refine aw_istore_n (n := 14) (i := 3) (al' := [some (.ref 88), some (.int v1), some (.int v2), some (.int y_13), none, none]) dX12_turnOn_13 rfl rfl rfl (by decide) rfl ?_
    refine aw_iload_n (n := 15) (i := 3) dX12_turnOn_14 rfl rfl rfl ?_
    refine aw_aload_n (n := 16) (i := 0) dX12_turnOn_15 rfl rfl rfl ?_
    refine aw_getI (n := 19) (j := 42) hG.1 fl_RX12_371 (sF_88 hS) rfl dX12_turnOn_16 rfl ?_
    refine aw_icmp_gt (n := 22) (tgt := 23) dX12_turnOn_19 rfl (by decide) (fun c => ?_) (fun c => ?_)
    · replace h := Ok.ift h c
      refine aw_aload_n (n := 24) (i := 0) dX12_turnOn_23 rfl rfl rfl ?_
      refine aw_iload_n (n := 25) (i := 3) dX12_turnOn_24 rfl rfl rfl ?_
      obtain ⟨D_15, e_D_15, h⟩ := Ok.let_ h
      refine aw_putI (n := 28) (j := 42) hG.1 fl_RX12_371 (sF_88 hS) rfl e_D_15 dX12_turnOn_25 rfl ?_
      refine aw_iconst (n := 29) (v := 0) dX12_turnOn_28 rfl (by decide) ?_
      refine aw_istore (n := 31) (i := 4) (al' := [some (.ref 88), some (.int v1), some (.int v2), some (.int y_13), some (.int 0), none]) dX12_turnOn_29 rfl rfl (by decide) rfl ?_
      exact aw_le' (hJ_31 v2 0 D_15 h) ⟨rfl, ⟨rfl, ⟨rfl, trivial⟩⟩⟩
    · replace h := Ok.iff h c
      exact aw_vret rfl (by decide) (by decide) dX12_turnOn_22 ⟨rfl, rfl, (Ok.dn h :)⟩
set_option maxRecDepth 100000 in
set_option maxHeartbeats 800000 in
theorem c_X12_turnOn_L5 {G : aG} (hG : gOK G) {shp : List aSh} (hS : aShp shp) {fr : Option Nat} {v1 : Int32} {v2 : Int32} {D : aD} {K : aD → Prop} (h : Ok (N_X12_turnOn 5 v1 v2 D) K) : AC G (aRm 11 0 0) M_X12_turnOn [.ref 88, .int v1, .int v2] fr shp D (aQv shp K) := by
  replace h : Ok (F_X12_turnOn (N_X12_turnOn 4) v1 v2 D) K := h
  unfold F_X12_turnOn at h
  refine AC.of (al := [some (.ref 88), some (.int v1), some (.int v2), none, none, none]) (r := 3) (by decide) (Nat.le_of_ble_eq_true rfl) rfl ?_
  have hJ_62 : ∀ (D : aD), Ok (J_X12_turnOn_62 (N_X12_turnOn 4) D) K → AW G (aRm 11 0 0) M_X12_turnOn fr 0 0 62 [none, none, none, none, none, none] [] shp D (aQv shp K) := by
    intro D h
    unfold J_X12_turnOn_62 at h
    exact aw_vret rfl (by decide) (by decide) dX12_turnOn_62 ⟨rfl, rfl, (Ok.dn h :)⟩
  have hJ_31 : ∀ (v2 : Int32) (v4 : Int32) (D : aD), Ok (J_X12_turnOn_31 (N_X12_turnOn 4) v2 v4 D) K → AW G (aRm 11 0 0) M_X12_turnOn fr 0 0 31 [some (.ref 88), none, some (.int v2), none, some (.int v4), none] [] shp D (aQv shp K) := by
    intro v2 v4 D h
    unfold J_X12_turnOn_31 at h
    refine Ok.lp (P := fun s => AW G (aRm 11 0 0) M_X12_turnOn fr 0 0 31 [some (.ref 88), none, some (.int v2), none, some (.int (s.1)), none] [] shp s.2 (aQv shp K)) (fun s Kb31 hL31 hR31 h => ?_) (v4, D) (Ok.bind h)
    obtain ⟨v4, D⟩ := s
    replace h : Ok (B_X12_turnOn_31 (N_X12_turnOn 4) v2 v4 D) Kb31 := h
    unfold B_X12_turnOn_31 at h
    refine aw_iload (n := 33) (i := 4) dX12_turnOn_31 rfl rfl ?_
    refine aw_iload_n (n := 34) (i := 2) dX12_turnOn_33 rfl rfl rfl ?_
    refine aw_icmp_ge (n := 37) (tgt := 62) dX12_turnOn_34 rfl (by decide) (fun c => ?_) (fun c => ?_)
    · replace h := Ok.ift h c
      exact aw_le' (hJ_62 D (hR31 D (Ok.dn h :))) trivial
    · replace h := Ok.iff h c
      refine aw_aload_n (n := 38) (i := 0) dX12_turnOn_37 rfl rfl rfl ?_
      refine aw_getR (n := 41) (j := 40) (r := 114) hG.1 fl_RX12_103 (sF_88 hS) rfl dX12_turnOn_38 rfl ?_
      refine aw_iload (n := 43) (i := 4) dX12_turnOn_41 rfl rfl ?_
      refine aw_aload_n (n := 44) (i := 0) dX12_turnOn_43 rfl rfl rfl ?_
      refine aw_getR (n := 47) (j := 28) (r := 106) hG.1 fl_RX12_76 (sF_88 hS) rfl dX12_turnOn_44 rfl ?_
      refine aw_aload_n (n := 48) (i := 0) dX12_turnOn_47 rfl rfl rfl ?_
      refine aw_getR (n := 51) (j := 39) (r := 113) hG.1 fl_RX12_100 (sF_88 hS) rfl dX12_turnOn_48 rfl ?_
      refine aw_iload (n := 53) (i := 4) dX12_turnOn_51 rfl rfl ?_
      obtain ⟨g_16, h⟩ := Ok.gd h
      refine aw_iaload (n := 54) hG.1 (sF_113 hS) (aIn_in g_16) dX12_turnOn_53 rfl ?_
      obtain ⟨g_17, h⟩ := Ok.gd h
      refine aw_iaload (n := 55) hG.1 (sF_106 hS) (aIn_in g_17) dX12_turnOn_54 rfl ?_
      obtain ⟨g_18, h⟩ := Ok.gd h
      obtain ⟨D_19, e_D_19, h⟩ := Ok.let_ h
      refine aw_iastore (n := 56) hG.1 (sF_114 hS) (aIn_in g_18) e_D_19 dX12_turnOn_55 rfl ?_
      obtain ⟨v4_20, e_v4_20, h⟩ := Ok.let_ h
      refine aw_iinc (n := 59) (al' := [some (.ref 88), none, some (.int v2), none, some (.int v4_20), none]) dX12_turnOn_56 rfl rfl e_v4_20 (by decide) rfl ?_
      refine aw_goto (tgt := 31) dX12_turnOn_59 (by decide) ?_
      exact aw_le' (hL31 (v4_20, D_19) (Ok.dn h :)) ⟨rfl, ⟨rfl, ⟨rfl, trivial⟩⟩⟩
  have hJ_121 : ∀ (v3 : Int32) (v4 : Int32) (D : aD), Ok (J_X12_turnOn_121 (N_X12_turnOn 4) v3 v4 D) K → AW G (aRm 11 0 0) M_X12_turnOn fr 0 0 121 [some (.ref 88), none, none, some (.int v3), some (.int v4), none] [] shp D (aQv shp K) := by
    intro v3 v4 D h
    unfold J_X12_turnOn_121 at h
    refine aw_aload_n (n := 122) (i := 0) dX12_turnOn_121 rfl rfl rfl ?_
    refine aw_getR (n := 125) (j := 28) (r := 106) hG.1 fl_RX12_76 (sF_88 hS) rfl dX12_turnOn_122 rfl ?_
    refine aw_iload_n (n := 126) (i := 3) dX12_turnOn_125 rfl rfl rfl ?_
    refine aw_iload (n := 128) (i := 4) dX12_turnOn_126 rfl rfl ?_
    obtain ⟨g_5, h⟩ := Ok.gd h
    obtain ⟨D_6, e_D_6, h⟩ := Ok.let_ h
    refine aw_iastore (n := 129) hG.1 (sF_106 hS) (aIn_in g_5) e_D_6 dX12_turnOn_128 rfl ?_
    exact aw_vret rfl (by decide) (by decide) dX12_turnOn_129 ⟨rfl, rfl, (Ok.dn h :)⟩
  have hJ_81 : ∀ (v1 : Int32) (v2 : Int32) (v3 : Int32) (v4 : Int32) (v5 : Int32) (D : aD), Ok (J_X12_turnOn_81 (N_X12_turnOn 4) v1 v2 v3 v4 v5 D) K → AW G (aRm 11 0 0) M_X12_turnOn fr 0 0 81 [some (.ref 88), some (.int v1), some (.int v2), some (.int v3), some (.int v4), some (.int v5)] [] shp D (aQv shp K) := by
    intro v1 v2 v3 v4 v5 D h
    unfold J_X12_turnOn_81 at h
    refine Ok.lp (P := fun s => AW G (aRm 11 0 0) M_X12_turnOn fr 0 0 81 [some (.ref 88), some (.int v1), some (.int v2), some (.int v3), some (.int v4), some (.int (s.1))] [] shp s.2 (aQv shp K)) (fun s Kb81 hL81 hR81 h => ?_) (v5, D) (Ok.bind h)
    obtain ⟨v5, D⟩ := s
    replace h : Ok (B_X12_turnOn_81 (N_X12_turnOn 4) v1 v2 v3 v4 v5 D) Kb81 := h
    unfold B_X12_turnOn_81 at h
    refine aw_iload (n := 83) (i := 5) dX12_turnOn_81 rfl rfl ?_
    refine aw_iconst (n := 84) (v := 1) dX12_turnOn_83 rfl (by decide) ?_
    refine aw_aload_n (n := 85) (i := 0) dX12_turnOn_84 rfl rfl rfl ?_
    refine aw_getR (n := 88) (j := 10) (r := 98) hG.1 fl_RX12_48 (sF_88 hS) rfl dX12_turnOn_85 rfl ?_
    refine aw_aload_n (n := 89) (i := 0) dX12_turnOn_88 rfl rfl rfl ?_
    refine aw_getR (n := 92) (j := 11) (r := 99) hG.1 fl_RX12_51 (sF_88 hS) rfl dX12_turnOn_89 rfl ?_
    refine aw_iload_n (n := 93) (i := 3) dX12_turnOn_92 rfl rfl rfl ?_
    obtain ⟨g_7, h⟩ := Ok.gd h
    refine aw_iaload (n := 94) hG.1 (sF_99 hS) (aIn_in g_7) dX12_turnOn_93 rfl ?_
    obtain ⟨g_8, h⟩ := Ok.gd h
    refine aw_iaload (n := 95) hG.1 (sF_98 hS) (aIn_in g_8) dX12_turnOn_94 rfl ?_
    refine aw_iadd (n := 96) dX12_turnOn_95 rfl ?_
    refine aw_icmp_gt (n := 99) (tgt := 121) dX12_turnOn_96 rfl (by decide) (fun c => ?_) (fun c => ?_)
    · replace h := Ok.ift h c
      exact aw_le' (hJ_121 v3 v4 D (hR81 D (Ok.dn h :))) ⟨rfl, ⟨rfl, ⟨rfl, trivial⟩⟩⟩
    · replace h := Ok.iff h c
      refine aw_aload_n (n := 100) (i := 0) dX12_turnOn_99 rfl rfl rfl ?_
      refine aw_getR (n := 103) (j := 28) (r := 106) hG.1 fl_RX12_76 (sF_88 hS) rfl dX12_turnOn_100 rfl ?_
      refine aw_iload_n (n := 104) (i := 3) dX12_turnOn_103 rfl rfl rfl ?_
      refine aw_iload (n := 106) (i := 5) dX12_turnOn_104 rfl rfl ?_
      obtain ⟨g_9, h⟩ := Ok.gd h
      obtain ⟨D_10, e_D_10, h⟩ := Ok.let_ h
      refine aw_iastore (n := 107) hG.1 (sF_106 hS) (aIn_in g_9) e_D_10 dX12_turnOn_106 rfl ?_
      refine aw_aload_n (n := 108) (i := 0) dX12_turnOn_107 rfl rfl rfl ?_
      refine aw_iload_n (n := 109) (i := 1) dX12_turnOn_108 rfl rfl rfl ?_
      refine aw_iload_n (n := 110) (i := 2) dX12_turnOn_109 rfl rfl rfl ?_
      refine aw_iconst (n := 111) (v := 1) dX12_turnOn_110 rfl (by decide) ?_
      refine aw_iadd (n := 112) dX12_turnOn_111 rfl ?_
      refine aw_cVv (M := M_X12_turnOn) (n := 115) (As := [.int v1, .int (v2 + 1)]) (rest := []) hG.1 lk_RX12_374 rfl rfl (sF_88 hS) (c_X12_turnOn_L4 hG hS (h := Ok.bind h)) (by decide) (Nat.le_of_ble_eq_true rfl) (by decide) (by decide) dX12_turnOn_112 rfl (fun D_11 h => ?_)
      obtain ⟨v5_12, e_v5_12, h⟩ := Ok.let_ h
      refine aw_iinc (n := 118) (al' := [some (.ref 88), some (.int v1), some (.int v2), some (.int v3), some (.int v4), some (.int v5_12)]) dX12_turnOn_115 rfl rfl e_v5_12 (by decide) rfl ?_
      refine aw_goto (tgt := 81) dX12_turnOn_118 (by decide) ?_
      exact aw_le' (hL81 (v5_12, D_11) (Ok.dn h :)) ⟨rfl, ⟨rfl, ⟨rfl, ⟨rfl, ⟨rfl, ⟨rfl, trivial⟩⟩⟩⟩⟩⟩
  refine aw_iload_n (n := 1) (i := 2) dX12_turnOn_0 rfl rfl rfl ?_
  refine aw_aload_n (n := 2) (i := 0) dX12_turnOn_1 rfl rfl rfl ?_
  refine aw_getI (n := 5) (j := 41) hG.1 fl_RX12_368 (sF_88 hS) rfl dX12_turnOn_2 rfl ?_
  refine aw_icmp_ne (n := 8) (tgt := 63) dX12_turnOn_5 rfl (by decide) (fun c => ?_) (fun c => ?_)
  · replace h := Ok.ift h c
    refine aw_aload_n (n := 64) (i := 0) dX12_turnOn_63 rfl rfl rfl ?_
    refine aw_getR (n := 67) (j := 39) (r := 113) hG.1 fl_RX12_100 (sF_88 hS) rfl dX12_turnOn_64 rfl ?_
    refine aw_iload_n (n := 68) (i := 2) dX12_turnOn_67 rfl rfl rfl ?_
    obtain ⟨g_1, h⟩ := Ok.gd h
    refine aw_iaload (n := 69) hG.1 (sF_113 hS) (aIn_in g_1) dX12_turnOn_68 rfl ?_
    obtain ⟨v3_2, e_v3_2, h⟩ := Ok.let_ h
    refine aw_istore_n (n := 70) (i := 3) (al' := [some (.ref 88), some (.int v1), some (.int v2), some (.int v3_2), none, none]) dX12_turnOn_69 rfl rfl e_v3_2 (by decide) rfl ?_
    refine aw_aload_n (n := 71) (i := 0) dX12_turnOn_70 rfl rfl rfl ?_
    refine aw_getR (n := 74) (j := 28) (r := 106) hG.1 fl_RX12_76 (sF_88 hS) rfl dX12_turnOn_71 rfl ?_
    refine aw_iload_n (n := 75) (i := 3) dX12_turnOn_74 rfl rfl rfl ?_
    obtain ⟨g_3, h⟩ := Ok.gd h
    refine aw_iaload (n := 76) hG.1 (sF_106 hS) (aIn_in g_3) dX12_turnOn_75 rfl ?_
    obtain ⟨v4_4, e_v4_4, h⟩ := Ok.let_ h
    refine aw_istore (n := 78) (i := 4) (al' := [some (.ref 88), some (.int v1), some (.int v2), some (.int v3_2), some (.int v4_4), none]) dX12_turnOn_76 rfl e_v4_4 (by decide) rfl ?_
    refine aw_iconst (n := 79) (v := 0) dX12_turnOn_78 rfl (by decide) ?_
    refine aw_istore (n := 81) (i := 5) (al' := [some (.ref 88), some (.int v1), some (.int v2), some (.int v3_2), some (.int v4_4), some (.int 0)]) dX12_turnOn_79 rfl rfl (by decide) rfl ?_
    exact aw_le' (hJ_81 v1 v2 v3_2 v4_4 0 D h) ⟨rfl, ⟨rfl, ⟨rfl, ⟨rfl, ⟨rfl, ⟨rfl, trivial⟩⟩⟩⟩⟩⟩
  · replace h := Ok.iffn h c
    refine aw_aload_n (n := 9) (i := 0) dX12_turnOn_8 rfl rfl rfl ?_
    refine aw_iload_n (n := 10) (i := 1) dX12_turnOn_9 rfl rfl rfl ?_
    refine aw_cVi (M := M_X12_turnOn) (n := 13) (As := [.int v1]) (rest := []) hG.1 lk_RX12_362 rfl rfl (sF_88 hS) (c_X12_weightsOf hG hS (h := Ok.bi h)) (by decide) (Nat.le_of_ble_eq_true rfl) (by decide) (by decide) dX12_turnOn_10 rfl (fun y_13 D_14 h => ?_)
    refine aw_istore_n (n := 14) (i := 3) (al' := [some (.ref 88), some (.int v1), some (.int v2), some (.int y_13), none, none]) dX12_turnOn_13 rfl rfl rfl (by decide) rfl ?_
    refine aw_iload_n (n := 15) (i := 3) dX12_turnOn_14 rfl rfl rfl ?_
    refine aw_aload_n (n := 16) (i := 0) dX12_turnOn_15 rfl rfl rfl ?_
    refine aw_getI (n := 19) (j := 42) hG.1 fl_RX12_371 (sF_88 hS) rfl dX12_turnOn_16 rfl ?_
    refine aw_icmp_gt (n := 22) (tgt := 23) dX12_turnOn_19 rfl (by decide) (fun c => ?_) (fun c => ?_)
    · replace h := Ok.ift h c
      refine aw_aload_n (n := 24) (i := 0) dX12_turnOn_23 rfl rfl rfl ?_
      refine aw_iload_n (n := 25) (i := 3) dX12_turnOn_24 rfl rfl rfl ?_
      obtain ⟨D_15, e_D_15, h⟩ := Ok.let_ h
      refine aw_putI (n := 28) (j := 42) hG.1 fl_RX12_371 (sF_88 hS) rfl e_D_15 dX12_turnOn_25 rfl ?_
      refine aw_iconst (n := 29) (v := 0) dX12_turnOn_28 rfl (by decide) ?_
      refine aw_istore (n := 31) (i := 4) (al' := [some (.ref 88), some (.int v1), some (.int v2), some (.int y_13), some (.int 0), none]) dX12_turnOn_29 rfl rfl (by decide) rfl ?_
      exact aw_le' (hJ_31 v2 0 D_15 h) ⟨rfl, ⟨rfl, ⟨rfl, trivial⟩⟩⟩
    · replace h := Ok.iff h c
      exact aw_vret rfl (by decide) (by decide) dX12_turnOn_22 ⟨rfl, rfl, (Ok.dn h :)⟩
set_option maxRecDepth 100000 in
set_option maxHeartbeats 800000 in
theorem c_X12_turnOn_L6 {G : aG} (hG : gOK G) {shp : List aSh} (hS : aShp shp) {fr : Option Nat} {v1 : Int32} {v2 : Int32} {D : aD} {K : aD → Prop} (h : Ok (N_X12_turnOn 6 v1 v2 D) K) : AC G (aRm 12 0 0) M_X12_turnOn [.ref 88, .int v1, .int v2] fr shp D (aQv shp K) := by
  replace h : Ok (F_X12_turnOn (N_X12_turnOn 5) v1 v2 D) K := h
  unfold F_X12_turnOn at h
  refine AC.of (al := [some (.ref 88), some (.int v1), some (.int v2), none, none, none]) (r := 3) (by decide) (Nat.le_of_ble_eq_true rfl) rfl ?_
  have hJ_62 : ∀ (D : aD), Ok (J_X12_turnOn_62 (N_X12_turnOn 5) D) K → AW G (aRm 12 0 0) M_X12_turnOn fr 0 0 62 [none, none, none, none, none, none] [] shp D (aQv shp K) := by
    intro D h
    unfold J_X12_turnOn_62 at h
    exact aw_vret rfl (by decide) (by decide) dX12_turnOn_62 ⟨rfl, rfl, (Ok.dn h :)⟩
  have hJ_31 : ∀ (v2 : Int32) (v4 : Int32) (D : aD), Ok (J_X12_turnOn_31 (N_X12_turnOn 5) v2 v4 D) K → AW G (aRm 12 0 0) M_X12_turnOn fr 0 0 31 [some (.ref 88), none, some (.int v2), none, some (.int v4), none] [] shp D (aQv shp K) := by
    intro v2 v4 D h
    unfold J_X12_turnOn_31 at h
    refine Ok.lp (P := fun s => AW G (aRm 12 0 0) M_X12_turnOn fr 0 0 31 [some (.ref 88), none, some (.int v2), none, some (.int (s.1)), none] [] shp s.2 (aQv shp K)) (fun s Kb31 hL31 hR31 h => ?_) (v4, D) (Ok.bind h)
    obtain ⟨v4, D⟩ := s
    replace h : Ok (B_X12_turnOn_31 (N_X12_turnOn 5) v2 v4 D) Kb31 := h
    unfold B_X12_turnOn_31 at h
    refine aw_iload (n := 33) (i := 4) dX12_turnOn_31 rfl rfl ?_
    refine aw_iload_n (n := 34) (i := 2) dX12_turnOn_33 rfl rfl rfl ?_
    refine aw_icmp_ge (n := 37) (tgt := 62) dX12_turnOn_34 rfl (by decide) (fun c => ?_) (fun c => ?_)
    · replace h := Ok.ift h c
      exact aw_le' (hJ_62 D (hR31 D (Ok.dn h :))) trivial
    · replace h := Ok.iff h c
      refine aw_aload_n (n := 38) (i := 0) dX12_turnOn_37 rfl rfl rfl ?_
      refine aw_getR (n := 41) (j := 40) (r := 114) hG.1 fl_RX12_103 (sF_88 hS) rfl dX12_turnOn_38 rfl ?_
      refine aw_iload (n := 43) (i := 4) dX12_turnOn_41 rfl rfl ?_
      refine aw_aload_n (n := 44) (i := 0) dX12_turnOn_43 rfl rfl rfl ?_
      refine aw_getR (n := 47) (j := 28) (r := 106) hG.1 fl_RX12_76 (sF_88 hS) rfl dX12_turnOn_44 rfl ?_
      refine aw_aload_n (n := 48) (i := 0) dX12_turnOn_47 rfl rfl rfl ?_
      refine aw_getR (n := 51) (j := 39) (r := 113) hG.1 fl_RX12_100 (sF_88 hS) rfl dX12_turnOn_48 rfl ?_
      refine aw_iload (n := 53) (i := 4) dX12_turnOn_51 rfl rfl ?_
      obtain ⟨g_16, h⟩ := Ok.gd h
      refine aw_iaload (n := 54) hG.1 (sF_113 hS) (aIn_in g_16) dX12_turnOn_53 rfl ?_
      obtain ⟨g_17, h⟩ := Ok.gd h
      refine aw_iaload (n := 55) hG.1 (sF_106 hS) (aIn_in g_17) dX12_turnOn_54 rfl ?_
      obtain ⟨g_18, h⟩ := Ok.gd h
      obtain ⟨D_19, e_D_19, h⟩ := Ok.let_ h
      refine aw_iastore (n := 56) hG.1 (sF_114 hS) (aIn_in g_18) e_D_19 dX12_turnOn_55 rfl ?_
      obtain ⟨v4_20, e_v4_20, h⟩ := Ok.let_ h
      refine aw_iinc (n := 59) (al' := [some (.ref 88), none, some (.int v2), none, some (.int v4_20), none]) dX12_turnOn_56 rfl rfl e_v4_20 (by decide) rfl ?_
      refine aw_goto (tgt := 31) dX12_turnOn_59 (by decide) ?_
      exact aw_le' (hL31 (v4_20, D_19) (Ok.dn h :)) ⟨rfl, ⟨rfl, ⟨rfl, trivial⟩⟩⟩
  have hJ_121 : ∀ (v3 : Int32) (v4 : Int32) (D : aD), Ok (J_X12_turnOn_121 (N_X12_turnOn 5) v3 v4 D) K → AW G (aRm 12 0 0) M_X12_turnOn fr 0 0 121 [some (.ref 88), none, none, some (.int v3), some (.int v4), none] [] shp D (aQv shp K) := by
    intro v3 v4 D h
    unfold J_X12_turnOn_121 at h
    refine aw_aload_n (n := 122) (i := 0) dX12_turnOn_121 rfl rfl rfl ?_
    refine aw_getR (n := 125) (j := 28) (r := 106) hG.1 fl_RX12_76 (sF_88 hS) rfl dX12_turnOn_122 rfl ?_
    refine aw_iload_n (n := 126) (i := 3) dX12_turnOn_125 rfl rfl rfl ?_
    refine aw_iload (n := 128) (i := 4) dX12_turnOn_126 rfl rfl ?_
    obtain ⟨g_5, h⟩ := Ok.gd h
    obtain ⟨D_6, e_D_6, h⟩ := Ok.let_ h
    refine aw_iastore (n := 129) hG.1 (sF_106 hS) (aIn_in g_5) e_D_6 dX12_turnOn_128 rfl ?_
    exact aw_vret rfl (by decide) (by decide) dX12_turnOn_129 ⟨rfl, rfl, (Ok.dn h :)⟩
  have hJ_81 : ∀ (v1 : Int32) (v2 : Int32) (v3 : Int32) (v4 : Int32) (v5 : Int32) (D : aD), Ok (J_X12_turnOn_81 (N_X12_turnOn 5) v1 v2 v3 v4 v5 D) K → AW G (aRm 12 0 0) M_X12_turnOn fr 0 0 81 [some (.ref 88), some (.int v1), some (.int v2), some (.int v3), some (.int v4), some (.int v5)] [] shp D (aQv shp K) := by
    intro v1 v2 v3 v4 v5 D h
    unfold J_X12_turnOn_81 at h
    refine Ok.lp (P := fun s => AW G (aRm 12 0 0) M_X12_turnOn fr 0 0 81 [some (.ref 88), some (.int v1), some (.int v2), some (.int v3), some (.int v4), some (.int (s.1))] [] shp s.2 (aQv shp K)) (fun s Kb81 hL81 hR81 h => ?_) (v5, D) (Ok.bind h)
    obtain ⟨v5, D⟩ := s
    replace h : Ok (B_X12_turnOn_81 (N_X12_turnOn 5) v1 v2 v3 v4 v5 D) Kb81 := h
    unfold B_X12_turnOn_81 at h
    refine aw_iload (n := 83) (i := 5) dX12_turnOn_81 rfl rfl ?_
    refine aw_iconst (n := 84) (v := 1) dX12_turnOn_83 rfl (by decide) ?_
    refine aw_aload_n (n := 85) (i := 0) dX12_turnOn_84 rfl rfl rfl ?_
    refine aw_getR (n := 88) (j := 10) (r := 98) hG.1 fl_RX12_48 (sF_88 hS) rfl dX12_turnOn_85 rfl ?_
    refine aw_aload_n (n := 89) (i := 0) dX12_turnOn_88 rfl rfl rfl ?_
    refine aw_getR (n := 92) (j := 11) (r := 99) hG.1 fl_RX12_51 (sF_88 hS) rfl dX12_turnOn_89 rfl ?_
    refine aw_iload_n (n := 93) (i := 3) dX12_turnOn_92 rfl rfl rfl ?_
    obtain ⟨g_7, h⟩ := Ok.gd h
    refine aw_iaload (n := 94) hG.1 (sF_99 hS) (aIn_in g_7) dX12_turnOn_93 rfl ?_
    obtain ⟨g_8, h⟩ := Ok.gd h
    refine aw_iaload (n := 95) hG.1 (sF_98 hS) (aIn_in g_8) dX12_turnOn_94 rfl ?_
    refine aw_iadd (n := 96) dX12_turnOn_95 rfl ?_
    refine aw_icmp_gt (n := 99) (tgt := 121) dX12_turnOn_96 rfl (by decide) (fun c => ?_) (fun c => ?_)
    · replace h := Ok.ift h c
      exact aw_le' (hJ_121 v3 v4 D (hR81 D (Ok.dn h :))) ⟨rfl, ⟨rfl, ⟨rfl, trivial⟩⟩⟩
    · replace h := Ok.iff h c
      refine aw_aload_n (n := 100) (i := 0) dX12_turnOn_99 rfl rfl rfl ?_
      refine aw_getR (n := 103) (j := 28) (r := 106) hG.1 fl_RX12_76 (sF_88 hS) rfl dX12_turnOn_100 rfl ?_
      refine aw_iload_n (n := 104) (i := 3) dX12_turnOn_103 rfl rfl rfl ?_
      refine aw_iload (n := 106) (i := 5) dX12_turnOn_104 rfl rfl ?_
      obtain ⟨g_9, h⟩ := Ok.gd h
      obtain ⟨D_10, e_D_10, h⟩ := Ok.let_ h
      refine aw_iastore (n := 107) hG.1 (sF_106 hS) (aIn_in g_9) e_D_10 dX12_turnOn_106 rfl ?_
      refine aw_aload_n (n := 108) (i := 0) dX12_turnOn_107 rfl rfl rfl ?_
      refine aw_iload_n (n := 109) (i := 1) dX12_turnOn_108 rfl rfl rfl ?_
      refine aw_iload_n (n := 110) (i := 2) dX12_turnOn_109 rfl rfl rfl ?_
      refine aw_iconst (n := 111) (v := 1) dX12_turnOn_110 rfl (by decide) ?_
      refine aw_iadd (n := 112) dX12_turnOn_111 rfl ?_
      refine aw_cVv (M := M_X12_turnOn) (n := 115) (As := [.int v1, .int (v2 + 1)]) (rest := []) hG.1 lk_RX12_374 rfl rfl (sF_88 hS) (c_X12_turnOn_L5 hG hS (h := Ok.bind h)) (by decide) (Nat.le_of_ble_eq_true rfl) (by decide) (by decide) dX12_turnOn_112 rfl (fun D_11 h => ?_)
      obtain ⟨v5_12, e_v5_12, h⟩ := Ok.let_ h
      refine aw_iinc (n := 118) (al' := [some (.ref 88), some (.int v1), some (.int v2), some (.int v3), some (.int v4), some (.int v5_12)]) dX12_turnOn_115 rfl rfl e_v5_12 (by decide) rfl ?_
      refine aw_goto (tgt := 81) dX12_turnOn_118 (by decide) ?_
      exact aw_le' (hL81 (v5_12, D_11) (Ok.dn h :)) ⟨rfl, ⟨rfl, ⟨rfl, ⟨rfl, ⟨rfl, ⟨rfl, trivial⟩⟩⟩⟩⟩⟩
  refine aw_iload_n (n := 1) (i := 2) dX12_turnOn_0 rfl rfl rfl ?_
  refine aw_aload_n (n := 2) (i := 0) dX12_turnOn_1 rfl rfl rfl ?_
  refine aw_getI (n := 5) (j := 41) hG.1 fl_RX12_368 (sF_88 hS) rfl dX12_turnOn_2 rfl ?_
  refine aw_icmp_ne (n := 8) (tgt := 63) dX12_turnOn_5 rfl (by decide) (fun c => ?_) (fun c => ?_)
  · replace h := Ok.ift h c
    refine aw_aload_n (n := 64) (i := 0) dX12_turnOn_63 rfl rfl rfl ?_
    refine aw_getR (n := 67) (j := 39) (r := 113) hG.1 fl_RX12_100 (sF_88 hS) rfl dX12_turnOn_64 rfl ?_
    refine aw_iload_n (n := 68) (i := 2) dX12_turnOn_67 rfl rfl rfl ?_
    obtain ⟨g_1, h⟩ := Ok.gd h
    refine aw_iaload (n := 69) hG.1 (sF_113 hS) (aIn_in g_1) dX12_turnOn_68 rfl ?_
    obtain ⟨v3_2, e_v3_2, h⟩ := Ok.let_ h
    refine aw_istore_n (n := 70) (i := 3) (al' := [some (.ref 88), some (.int v1), some (.int v2), some (.int v3_2), none, none]) dX12_turnOn_69 rfl rfl e_v3_2 (by decide) rfl ?_
    refine aw_aload_n (n := 71) (i := 0) dX12_turnOn_70 rfl rfl rfl ?_
    refine aw_getR (n := 74) (j := 28) (r := 106) hG.1 fl_RX12_76 (sF_88 hS) rfl dX12_turnOn_71 rfl ?_
    refine aw_iload_n (n := 75) (i := 3) dX12_turnOn_74 rfl rfl rfl ?_
    obtain ⟨g_3, h⟩ := Ok.gd h
    refine aw_iaload (n := 76) hG.1 (sF_106 hS) (aIn_in g_3) dX12_turnOn_75 rfl ?_
    obtain ⟨v4_4, e_v4_4, h⟩ := Ok.let_ h
    refine aw_istore (n := 78) (i := 4) (al' := [some (.ref 88), some (.int v1), some (.int v2), some (.int v3_2), some (.int v4_4), none]) dX12_turnOn_76 rfl e_v4_4 (by decide) rfl ?_
    refine aw_iconst (n := 79) (v := 0) dX12_turnOn_78 rfl (by decide) ?_
    refine aw_istore (n := 81) (i := 5) (al' := [some (.ref 88), some (.int v1), some (.int v2), some (.int v3_2), some (.int v4_4), some (.int 0)]) dX12_turnOn_79 rfl rfl (by decide) rfl ?_
    exact aw_le' (hJ_81 v1 v2 v3_2 v4_4 0 D h) ⟨rfl, ⟨rfl, ⟨rfl, ⟨rfl, ⟨rfl, ⟨rfl, trivial⟩⟩⟩⟩⟩⟩
  · replace h := Ok.iffn h c
    refine aw_aload_n (n := 9) (i := 0) dX12_turnOn_8 rfl rfl rfl ?_
    refine aw_iload_n (n := 10) (i := 1) dX12_turnOn_9 rfl rfl rfl ?_
    refine aw_cVi (M := M_X12_turnOn) (n := 13) (As := [.int v1]) (rest := []) hG.1 lk_RX12_362 rfl rfl (sF_88 hS) (c_X12_weightsOf hG hS (h := Ok.bi h)) (by decide) (Nat.le_of_ble_eq_true rfl) (by decide) (by decide) dX12_turnOn_10 rfl (fun y_13 D_14 h => ?_)
    refine aw_istore_n (n := 14) (i := 3) (al' := [some (.ref 88), some (.int v1), some (.int v2), some (.int y_13), none, none]) dX12_turnOn_13 rfl rfl rfl (by decide) rfl ?_
    refine aw_iload_n (n := 15) (i := 3) dX12_turnOn_14 rfl rfl rfl ?_
    refine aw_aload_n (n := 16) (i := 0) dX12_turnOn_15 rfl rfl rfl ?_
    refine aw_getI (n := 19) (j := 42) hG.1 fl_RX12_371 (sF_88 hS) rfl dX12_turnOn_16 rfl ?_
    refine aw_icmp_gt (n := 22) (tgt := 23) dX12_turnOn_19 rfl (by decide) (fun c => ?_) (fun c => ?_)
    · replace h := Ok.ift h c
      refine aw_aload_n (n := 24) (i := 0) dX12_turnOn_23 rfl rfl rfl ?_
      refine aw_iload_n (n := 25) (i := 3) dX12_turnOn_24 rfl rfl rfl ?_
      obtain ⟨D_15, e_D_15, h⟩ := Ok.let_ h
      refine aw_putI (n := 28) (j := 42) hG.1 fl_RX12_371 (sF_88 hS) rfl e_D_15 dX12_turnOn_25 rfl ?_
      refine aw_iconst (n := 29) (v := 0) dX12_turnOn_28 rfl (by decide) ?_
      refine aw_istore (n := 31) (i := 4) (al' := [some (.ref 88), some (.int v1), some (.int v2), some (.int y_13), some (.int 0), none]) dX12_turnOn_29 rfl rfl (by decide) rfl ?_
      exact aw_le' (hJ_31 v2 0 D_15 h) ⟨rfl, ⟨rfl, ⟨rfl, trivial⟩⟩⟩
    · replace h := Ok.iff h c
      exact aw_vret rfl (by decide) (by decide) dX12_turnOn_22 ⟨rfl, rfl, (Ok.dn h :)⟩
set_option maxRecDepth 100000 in
set_option maxHeartbeats 800000 in
theorem c_X12_turnOn_L7 {G : aG} (hG : gOK G) {shp : List aSh} (hS : aShp shp) {fr : Option Nat} {v1 : Int32} {v2 : Int32} {D : aD} {K : aD → Prop} (h : Ok (N_X12_turnOn 7 v1 v2 D) K) : AC G (aRm 13 0 0) M_X12_turnOn [.ref 88, .int v1, .int v2] fr shp D (aQv shp K) := by
  replace h : Ok (F_X12_turnOn (N_X12_turnOn 6) v1 v2 D) K := h
  unfold F_X12_turnOn at h
  refine AC.of (al := [some (.ref 88), some (.int v1), some (.int v2), none, none, none]) (r := 3) (by decide) (Nat.le_of_ble_eq_true rfl) rfl ?_
  have hJ_62 : ∀ (D : aD), Ok (J_X12_turnOn_62 (N_X12_turnOn 6) D) K → AW G (aRm 13 0 0) M_X12_turnOn fr 0 0 62 [none, none, none, none, none, none] [] shp D (aQv shp K) := by
    intro D h
    unfold J_X12_turnOn_62 at h
    exact aw_vret rfl (by decide) (by decide) dX12_turnOn_62 ⟨rfl, rfl, (Ok.dn h :)⟩
  have hJ_31 : ∀ (v2 : Int32) (v4 : Int32) (D : aD), Ok (J_X12_turnOn_31 (N_X12_turnOn 6) v2 v4 D) K → AW G (aRm 13 0 0) M_X12_turnOn fr 0 0 31 [some (.ref 88), none, some (.int v2), none, some (.int v4), none] [] shp D (aQv shp K) := by
    intro v2 v4 D h
    unfold J_X12_turnOn_31 at h
    refine Ok.lp (P := fun s => AW G (aRm 13 0 0) M_X12_turnOn fr 0 0 31 [some (.ref 88), none, some (.int v2), none, some (.int (s.1)), none] [] shp s.2 (aQv shp K)) (fun s Kb31 hL31 hR31 h => ?_) (v4, D) (Ok.bind h)
    obtain ⟨v4, D⟩ := s
    replace h : Ok (B_X12_turnOn_31 (N_X12_turnOn 6) v2 v4 D) Kb31 := h
    unfold B_X12_turnOn_31 at h
    refine aw_iload (n := 33) (i := 4) dX12_turnOn_31 rfl rfl ?_
    refine aw_iload_n (n := 34) (i := 2) dX12_turnOn_33 rfl rfl rfl ?_
    refine aw_icmp_ge (n := 37) (tgt := 62) dX12_turnOn_34 rfl (by decide) (fun c => ?_) (fun c => ?_)
    · replace h := Ok.ift h c
      exact aw_le' (hJ_62 D (hR31 D (Ok.dn h :))) trivial
    · replace h := Ok.iff h c
      refine aw_aload_n (n := 38) (i := 0) dX12_turnOn_37 rfl rfl rfl ?_
      refine aw_getR (n := 41) (j := 40) (r := 114) hG.1 fl_RX12_103 (sF_88 hS) rfl dX12_turnOn_38 rfl ?_
      refine aw_iload (n := 43) (i := 4) dX12_turnOn_41 rfl rfl ?_
      refine aw_aload_n (n := 44) (i := 0) dX12_turnOn_43 rfl rfl rfl ?_
      refine aw_getR (n := 47) (j := 28) (r := 106) hG.1 fl_RX12_76 (sF_88 hS) rfl dX12_turnOn_44 rfl ?_
      refine aw_aload_n (n := 48) (i := 0) dX12_turnOn_47 rfl rfl rfl ?_
      refine aw_getR (n := 51) (j := 39) (r := 113) hG.1 fl_RX12_100 (sF_88 hS) rfl dX12_turnOn_48 rfl ?_
      refine aw_iload (n := 53) (i := 4) dX12_turnOn_51 rfl rfl ?_
      obtain ⟨g_16, h⟩ := Ok.gd h
      refine aw_iaload (n := 54) hG.1 (sF_113 hS) (aIn_in g_16) dX12_turnOn_53 rfl ?_
      obtain ⟨g_17, h⟩ := Ok.gd h
      refine aw_iaload (n := 55) hG.1 (sF_106 hS) (aIn_in g_17) dX12_turnOn_54 rfl ?_
      obtain ⟨g_18, h⟩ := Ok.gd h
      obtain ⟨D_19, e_D_19, h⟩ := Ok.let_ h
      refine aw_iastore (n := 56) hG.1 (sF_114 hS) (aIn_in g_18) e_D_19 dX12_turnOn_55 rfl ?_
      obtain ⟨v4_20, e_v4_20, h⟩ := Ok.let_ h
      refine aw_iinc (n := 59) (al' := [some (.ref 88), none, some (.int v2), none, some (.int v4_20), none]) dX12_turnOn_56 rfl rfl e_v4_20 (by decide) rfl ?_
      refine aw_goto (tgt := 31) dX12_turnOn_59 (by decide) ?_
      exact aw_le' (hL31 (v4_20, D_19) (Ok.dn h :)) ⟨rfl, ⟨rfl, ⟨rfl, trivial⟩⟩⟩
  have hJ_121 : ∀ (v3 : Int32) (v4 : Int32) (D : aD), Ok (J_X12_turnOn_121 (N_X12_turnOn 6) v3 v4 D) K → AW G (aRm 13 0 0) M_X12_turnOn fr 0 0 121 [some (.ref 88), none, none, some (.int v3), some (.int v4), none] [] shp D (aQv shp K) := by
    intro v3 v4 D h
    unfold J_X12_turnOn_121 at h
    refine aw_aload_n (n := 122) (i := 0) dX12_turnOn_121 rfl rfl rfl ?_
    refine aw_getR (n := 125) (j := 28) (r := 106) hG.1 fl_RX12_76 (sF_88 hS) rfl dX12_turnOn_122 rfl ?_
    refine aw_iload_n (n := 126) (i := 3) dX12_turnOn_125 rfl rfl rfl ?_
    refine aw_iload (n := 128) (i := 4) dX12_turnOn_126 rfl rfl ?_
    obtain ⟨g_5, h⟩ := Ok.gd h
    obtain ⟨D_6, e_D_6, h⟩ := Ok.let_ h
    refine aw_iastore (n := 129) hG.1 (sF_106 hS) (aIn_in g_5) e_D_6 dX12_turnOn_128 rfl ?_
    exact aw_vret rfl (by decide) (by decide) dX12_turnOn_129 ⟨rfl, rfl, (Ok.dn h :)⟩
  have hJ_81 : ∀ (v1 : Int32) (v2 : Int32) (v3 : Int32) (v4 : Int32) (v5 : Int32) (D : aD), Ok (J_X12_turnOn_81 (N_X12_turnOn 6) v1 v2 v3 v4 v5 D) K → AW G (aRm 13 0 0) M_X12_turnOn fr 0 0 81 [some (.ref 88), some (.int v1), some (.int v2), some (.int v3), some (.int v4), some (.int v5)] [] shp D (aQv shp K) := by
    intro v1 v2 v3 v4 v5 D h
    unfold J_X12_turnOn_81 at h
    refine Ok.lp (P := fun s => AW G (aRm 13 0 0) M_X12_turnOn fr 0 0 81 [some (.ref 88), some (.int v1), some (.int v2), some (.int v3), some (.int v4), some (.int (s.1))] [] shp s.2 (aQv shp K)) (fun s Kb81 hL81 hR81 h => ?_) (v5, D) (Ok.bind h)
    obtain ⟨v5, D⟩ := s
    replace h : Ok (B_X12_turnOn_81 (N_X12_turnOn 6) v1 v2 v3 v4 v5 D) Kb81 := h
    unfold B_X12_turnOn_81 at h
    refine aw_iload (n := 83) (i := 5) dX12_turnOn_81 rfl rfl ?_
    refine aw_iconst (n := 84) (v := 1) dX12_turnOn_83 rfl (by decide) ?_
    refine aw_aload_n (n := 85) (i := 0) dX12_turnOn_84 rfl rfl rfl ?_
    refine aw_getR (n := 88) (j := 10) (r := 98) hG.1 fl_RX12_48 (sF_88 hS) rfl dX12_turnOn_85 rfl ?_
    refine aw_aload_n (n := 89) (i := 0) dX12_turnOn_88 rfl rfl rfl ?_
    refine aw_getR (n := 92) (j := 11) (r := 99) hG.1 fl_RX12_51 (sF_88 hS) rfl dX12_turnOn_89 rfl ?_
    refine aw_iload_n (n := 93) (i := 3) dX12_turnOn_92 rfl rfl rfl ?_
    obtain ⟨g_7, h⟩ := Ok.gd h
    refine aw_iaload (n := 94) hG.1 (sF_99 hS) (aIn_in g_7) dX12_turnOn_93 rfl ?_
    obtain ⟨g_8, h⟩ := Ok.gd h
    refine aw_iaload (n := 95) hG.1 (sF_98 hS) (aIn_in g_8) dX12_turnOn_94 rfl ?_
    refine aw_iadd (n := 96) dX12_turnOn_95 rfl ?_
    refine aw_icmp_gt (n := 99) (tgt := 121) dX12_turnOn_96 rfl (by decide) (fun c => ?_) (fun c => ?_)
    · replace h := Ok.ift h c
      exact aw_le' (hJ_121 v3 v4 D (hR81 D (Ok.dn h :))) ⟨rfl, ⟨rfl, ⟨rfl, trivial⟩⟩⟩
    · replace h := Ok.iff h c
      refine aw_aload_n (n := 100) (i := 0) dX12_turnOn_99 rfl rfl rfl ?_
      refine aw_getR (n := 103) (j := 28) (r := 106) hG.1 fl_RX12_76 (sF_88 hS) rfl dX12_turnOn_100 rfl ?_
      refine aw_iload_n (n := 104) (i := 3) dX12_turnOn_103 rfl rfl rfl ?_
      refine aw_iload (n := 106) (i := 5) dX12_turnOn_104 rfl rfl ?_
      obtain ⟨g_9, h⟩ := Ok.gd h
      obtain ⟨D_10, e_D_10, h⟩ := Ok.let_ h
      refine aw_iastore (n := 107) hG.1 (sF_106 hS) (aIn_in g_9) e_D_10 dX12_turnOn_106 rfl ?_
      refine aw_aload_n (n := 108) (i := 0) dX12_turnOn_107 rfl rfl rfl ?_
      refine aw_iload_n (n := 109) (i := 1) dX12_turnOn_108 rfl rfl rfl ?_
      refine aw_iload_n (n := 110) (i := 2) dX12_turnOn_109 rfl rfl rfl ?_
      refine aw_iconst (n := 111) (v := 1) dX12_turnOn_110 rfl (by decide) ?_
      refine aw_iadd (n := 112) dX12_turnOn_111 rfl ?_
      refine aw_cVv (M := M_X12_turnOn) (n := 115) (As := [.int v1, .int (v2 + 1)]) (rest := []) hG.1 lk_RX12_374 rfl rfl (sF_88 hS) (c_X12_turnOn_L6 hG hS (h := Ok.bind h)) (by decide) (Nat.le_of_ble_eq_true rfl) (by decide) (by decide) dX12_turnOn_112 rfl (fun D_11 h => ?_)
      obtain ⟨v5_12, e_v5_12, h⟩ := Ok.let_ h
      refine aw_iinc (n := 118) (al' := [some (.ref 88), some (.int v1), some (.int v2), some (.int v3), some (.int v4), some (.int v5_12)]) dX12_turnOn_115 rfl rfl e_v5_12 (by decide) rfl ?_
      refine aw_goto (tgt := 81) dX12_turnOn_118 (by decide) ?_
      exact aw_le' (hL81 (v5_12, D_11) (Ok.dn h :)) ⟨rfl, ⟨rfl, ⟨rfl, ⟨rfl, ⟨rfl, ⟨rfl, trivial⟩⟩⟩⟩⟩⟩
  refine aw_iload_n (n := 1) (i := 2) dX12_turnOn_0 rfl rfl rfl ?_
  refine aw_aload_n (n := 2) (i := 0) dX12_turnOn_1 rfl rfl rfl ?_
  refine aw_getI (n := 5) (j := 41) hG.1 fl_RX12_368 (sF_88 hS) rfl dX12_turnOn_2 rfl ?_
  refine aw_icmp_ne (n := 8) (tgt := 63) dX12_turnOn_5 rfl (by decide) (fun c => ?_) (fun c => ?_)
  · replace h := Ok.ift h c
    refine aw_aload_n (n := 64) (i := 0) dX12_turnOn_63 rfl rfl rfl ?_
    refine aw_getR (n := 67) (j := 39) (r := 113) hG.1 fl_RX12_100 (sF_88 hS) rfl dX12_turnOn_64 rfl ?_
    refine aw_iload_n (n := 68) (i := 2) dX12_turnOn_67 rfl rfl rfl ?_
    obtain ⟨g_1, h⟩ := Ok.gd h
    refine aw_iaload (n := 69) hG.1 (sF_113 hS) (aIn_in g_1) dX12_turnOn_68 rfl ?_
    obtain ⟨v3_2, e_v3_2, h⟩ := Ok.let_ h
    refine aw_istore_n (n := 70) (i := 3) (al' := [some (.ref 88), some (.int v1), some (.int v2), some (.int v3_2), none, none]) dX12_turnOn_69 rfl rfl e_v3_2 (by decide) rfl ?_
    refine aw_aload_n (n := 71) (i := 0) dX12_turnOn_70 rfl rfl rfl ?_
    refine aw_getR (n := 74) (j := 28) (r := 106) hG.1 fl_RX12_76 (sF_88 hS) rfl dX12_turnOn_71 rfl ?_
    refine aw_iload_n (n := 75) (i := 3) dX12_turnOn_74 rfl rfl rfl ?_
    obtain ⟨g_3, h⟩ := Ok.gd h
    refine aw_iaload (n := 76) hG.1 (sF_106 hS) (aIn_in g_3) dX12_turnOn_75 rfl ?_
    obtain ⟨v4_4, e_v4_4, h⟩ := Ok.let_ h
    refine aw_istore (n := 78) (i := 4) (al' := [some (.ref 88), some (.int v1), some (.int v2), some (.int v3_2), some (.int v4_4), none]) dX12_turnOn_76 rfl e_v4_4 (by decide) rfl ?_
    refine aw_iconst (n := 79) (v := 0) dX12_turnOn_78 rfl (by decide) ?_
    refine aw_istore (n := 81) (i := 5) (al' := [some (.ref 88), some (.int v1), some (.int v2), some (.int v3_2), some (.int v4_4), some (.int 0)]) dX12_turnOn_79 rfl rfl (by decide) rfl ?_
    exact aw_le' (hJ_81 v1 v2 v3_2 v4_4 0 D h) ⟨rfl, ⟨rfl, ⟨rfl, ⟨rfl, ⟨rfl, ⟨rfl, trivial⟩⟩⟩⟩⟩⟩
  · replace h := Ok.iffn h c
    refine aw_aload_n (n := 9) (i := 0) dX12_turnOn_8 rfl rfl rfl ?_
    refine aw_iload_n (n := 10) (i := 1) dX12_turnOn_9 rfl rfl rfl ?_
    refine aw_cVi (M := M_X12_turnOn) (n := 13) (As := [.int v1]) (rest := []) hG.1 lk_RX12_362 rfl rfl (sF_88 hS) (c_X12_weightsOf hG hS (h := Ok.bi h)) (by decide) (Nat.le_of_ble_eq_true rfl) (by decide) (by decide) dX12_turnOn_10 rfl (fun y_13 D_14 h => ?_)
    refine aw_istore_n (n := 14) (i := 3) (al' := [some (.ref 88), some (.int v1), some (.int v2), some (.int y_13), none, none]) dX12_turnOn_13 rfl rfl rfl (by decide) rfl ?_
    refine aw_iload_n (n := 15) (i := 3) dX12_turnOn_14 rfl rfl rfl ?_
    refine aw_aload_n (n := 16) (i := 0) dX12_turnOn_15 rfl rfl rfl ?_
    refine aw_getI (n := 19) (j := 42) hG.1 fl_RX12_371 (sF_88 hS) rfl dX12_turnOn_16 rfl ?_
    refine aw_icmp_gt (n := 22) (tgt := 23) dX12_turnOn_19 rfl (by decide) (fun c => ?_) (fun c => ?_)
    · replace h := Ok.ift h c
      refine aw_aload_n (n := 24) (i := 0) dX12_turnOn_23 rfl rfl rfl ?_
      refine aw_iload_n (n := 25) (i := 3) dX12_turnOn_24 rfl rfl rfl ?_
      obtain ⟨D_15, e_D_15, h⟩ := Ok.let_ h
      refine aw_putI (n := 28) (j := 42) hG.1 fl_RX12_371 (sF_88 hS) rfl e_D_15 dX12_turnOn_25 rfl ?_
      refine aw_iconst (n := 29) (v := 0) dX12_turnOn_28 rfl (by decide) ?_
      refine aw_istore (n := 31) (i := 4) (al' := [some (.ref 88), some (.int v1), some (.int v2), some (.int y_13), some (.int 0), none]) dX12_turnOn_29 rfl rfl (by decide) rfl ?_
      exact aw_le' (hJ_31 v2 0 D_15 h) ⟨rfl, ⟨rfl, ⟨rfl, trivial⟩⟩⟩
    · replace h := Ok.iff h c
      exact aw_vret rfl (by decide) (by decide) dX12_turnOn_22 ⟨rfl, rfl, (Ok.dn h :)⟩
set_option maxRecDepth 100000 in
set_option maxHeartbeats 800000 in
theorem c_X12_turnOn_L8 {G : aG} (hG : gOK G) {shp : List aSh} (hS : aShp shp) {fr : Option Nat} {v1 : Int32} {v2 : Int32} {D : aD} {K : aD → Prop} (h : Ok (N_X12_turnOn 8 v1 v2 D) K) : AC G (aRm 14 0 0) M_X12_turnOn [.ref 88, .int v1, .int v2] fr shp D (aQv shp K) := by
  replace h : Ok (F_X12_turnOn (N_X12_turnOn 7) v1 v2 D) K := h
  unfold F_X12_turnOn at h
  refine AC.of (al := [some (.ref 88), some (.int v1), some (.int v2), none, none, none]) (r := 3) (by decide) (Nat.le_of_ble_eq_true rfl) rfl ?_
  have hJ_62 : ∀ (D : aD), Ok (J_X12_turnOn_62 (N_X12_turnOn 7) D) K → AW G (aRm 14 0 0) M_X12_turnOn fr 0 0 62 [none, none, none, none, none, none] [] shp D (aQv shp K) := by
    intro D h
    unfold J_X12_turnOn_62 at h
    exact aw_vret rfl (by decide) (by decide) dX12_turnOn_62 ⟨rfl, rfl, (Ok.dn h :)⟩
  have hJ_31 : ∀ (v2 : Int32) (v4 : Int32) (D : aD), Ok (J_X12_turnOn_31 (N_X12_turnOn 7) v2 v4 D) K → AW G (aRm 14 0 0) M_X12_turnOn fr 0 0 31 [some (.ref 88), none, some (.int v2), none, some (.int v4), none] [] shp D (aQv shp K) := by
    intro v2 v4 D h
    unfold J_X12_turnOn_31 at h
    refine Ok.lp (P := fun s => AW G (aRm 14 0 0) M_X12_turnOn fr 0 0 31 [some (.ref 88), none, some (.int v2), none, some (.int (s.1)), none] [] shp s.2 (aQv shp K)) (fun s Kb31 hL31 hR31 h => ?_) (v4, D) (Ok.bind h)
    obtain ⟨v4, D⟩ := s
    replace h : Ok (B_X12_turnOn_31 (N_X12_turnOn 7) v2 v4 D) Kb31 := h
    unfold B_X12_turnOn_31 at h
    refine aw_iload (n := 33) (i := 4) dX12_turnOn_31 rfl rfl ?_
    refine aw_iload_n (n := 34) (i := 2) dX12_turnOn_33 rfl rfl rfl ?_
    refine aw_icmp_ge (n := 37) (tgt := 62) dX12_turnOn_34 rfl (by decide) (fun c => ?_) (fun c => ?_)
    · replace h := Ok.ift h c
      exact aw_le' (hJ_62 D (hR31 D (Ok.dn h :))) trivial
    · replace h := Ok.iff h c
      refine aw_aload_n (n := 38) (i := 0) dX12_turnOn_37 rfl rfl rfl ?_
      refine aw_getR (n := 41) (j := 40) (r := 114) hG.1 fl_RX12_103 (sF_88 hS) rfl dX12_turnOn_38 rfl ?_
      refine aw_iload (n := 43) (i := 4) dX12_turnOn_41 rfl rfl ?_
      refine aw_aload_n (n := 44) (i := 0) dX12_turnOn_43 rfl rfl rfl ?_
      refine aw_getR (n := 47) (j := 28) (r := 106) hG.1 fl_RX12_76 (sF_88 hS) rfl dX12_turnOn_44 rfl ?_
      refine aw_aload_n (n := 48) (i := 0) dX12_turnOn_47 rfl rfl rfl ?_
      refine aw_getR (n := 51) (j := 39) (r := 113) hG.1 fl_RX12_100 (sF_88 hS) rfl dX12_turnOn_48 rfl ?_
      refine aw_iload (n := 53) (i := 4) dX12_turnOn_51 rfl rfl ?_
      obtain ⟨g_16, h⟩ := Ok.gd h
      refine aw_iaload (n := 54) hG.1 (sF_113 hS) (aIn_in g_16) dX12_turnOn_53 rfl ?_
      obtain ⟨g_17, h⟩ := Ok.gd h
      refine aw_iaload (n := 55) hG.1 (sF_106 hS) (aIn_in g_17) dX12_turnOn_54 rfl ?_
      obtain ⟨g_18, h⟩ := Ok.gd h
      obtain ⟨D_19, e_D_19, h⟩ := Ok.let_ h
      refine aw_iastore (n := 56) hG.1 (sF_114 hS) (aIn_in g_18) e_D_19 dX12_turnOn_55 rfl ?_
      obtain ⟨v4_20, e_v4_20, h⟩ := Ok.let_ h
      refine aw_iinc (n := 59) (al' := [some (.ref 88), none, some (.int v2), none, some (.int v4_20), none]) dX12_turnOn_56 rfl rfl e_v4_20 (by decide) rfl ?_
      refine aw_goto (tgt := 31) dX12_turnOn_59 (by decide) ?_
      exact aw_le' (hL31 (v4_20, D_19) (Ok.dn h :)) ⟨rfl, ⟨rfl, ⟨rfl, trivial⟩⟩⟩
  have hJ_121 : ∀ (v3 : Int32) (v4 : Int32) (D : aD), Ok (J_X12_turnOn_121 (N_X12_turnOn 7) v3 v4 D) K → AW G (aRm 14 0 0) M_X12_turnOn fr 0 0 121 [some (.ref 88), none, none, some (.int v3), some (.int v4), none] [] shp D (aQv shp K) := by
    intro v3 v4 D h
    unfold J_X12_turnOn_121 at h
    refine aw_aload_n (n := 122) (i := 0) dX12_turnOn_121 rfl rfl rfl ?_
    refine aw_getR (n := 125) (j := 28) (r := 106) hG.1 fl_RX12_76 (sF_88 hS) rfl dX12_turnOn_122 rfl ?_
    refine aw_iload_n (n := 126) (i := 3) dX12_turnOn_125 rfl rfl rfl ?_
    refine aw_iload (n := 128) (i := 4) dX12_turnOn_126 rfl rfl ?_
    obtain ⟨g_5, h⟩ := Ok.gd h
    obtain ⟨D_6, e_D_6, h⟩ := Ok.let_ h
    refine aw_iastore (n := 129) hG.1 (sF_106 hS) (aIn_in g_5) e_D_6 dX12_turnOn_128 rfl ?_
    exact aw_vret rfl (by decide) (by decide) dX12_turnOn_129 ⟨rfl, rfl, (Ok.dn h :)⟩
  have hJ_81 : ∀ (v1 : Int32) (v2 : Int32) (v3 : Int32) (v4 : Int32) (v5 : Int32) (D : aD), Ok (J_X12_turnOn_81 (N_X12_turnOn 7) v1 v2 v3 v4 v5 D) K → AW G (aRm 14 0 0) M_X12_turnOn fr 0 0 81 [some (.ref 88), some (.int v1), some (.int v2), some (.int v3), some (.int v4), some (.int v5)] [] shp D (aQv shp K) := by
    intro v1 v2 v3 v4 v5 D h
    unfold J_X12_turnOn_81 at h
    refine Ok.lp (P := fun s => AW G (aRm 14 0 0) M_X12_turnOn fr 0 0 81 [some (.ref 88), some (.int v1), some (.int v2), some (.int v3), some (.int v4), some (.int (s.1))] [] shp s.2 (aQv shp K)) (fun s Kb81 hL81 hR81 h => ?_) (v5, D) (Ok.bind h)
    obtain ⟨v5, D⟩ := s
    replace h : Ok (B_X12_turnOn_81 (N_X12_turnOn 7) v1 v2 v3 v4 v5 D) Kb81 := h
    unfold B_X12_turnOn_81 at h
    refine aw_iload (n := 83) (i := 5) dX12_turnOn_81 rfl rfl ?_
    refine aw_iconst (n := 84) (v := 1) dX12_turnOn_83 rfl (by decide) ?_
    refine aw_aload_n (n := 85) (i := 0) dX12_turnOn_84 rfl rfl rfl ?_
    refine aw_getR (n := 88) (j := 10) (r := 98) hG.1 fl_RX12_48 (sF_88 hS) rfl dX12_turnOn_85 rfl ?_
    refine aw_aload_n (n := 89) (i := 0) dX12_turnOn_88 rfl rfl rfl ?_
    refine aw_getR (n := 92) (j := 11) (r := 99) hG.1 fl_RX12_51 (sF_88 hS) rfl dX12_turnOn_89 rfl ?_
    refine aw_iload_n (n := 93) (i := 3) dX12_turnOn_92 rfl rfl rfl ?_
    obtain ⟨g_7, h⟩ := Ok.gd h
    refine aw_iaload (n := 94) hG.1 (sF_99 hS) (aIn_in g_7) dX12_turnOn_93 rfl ?_
    obtain ⟨g_8, h⟩ := Ok.gd h
    refine aw_iaload (n := 95) hG.1 (sF_98 hS) (aIn_in g_8) dX12_turnOn_94 rfl ?_
    refine aw_iadd (n := 96) dX12_turnOn_95 rfl ?_
    refine aw_icmp_gt (n := 99) (tgt := 121) dX12_turnOn_96 rfl (by decide) (fun c => ?_) (fun c => ?_)
    · replace h := Ok.ift h c
      exact aw_le' (hJ_121 v3 v4 D (hR81 D (Ok.dn h :))) ⟨rfl, ⟨rfl, ⟨rfl, trivial⟩⟩⟩
    · replace h := Ok.iff h c
      refine aw_aload_n (n := 100) (i := 0) dX12_turnOn_99 rfl rfl rfl ?_
      refine aw_getR (n := 103) (j := 28) (r := 106) hG.1 fl_RX12_76 (sF_88 hS) rfl dX12_turnOn_100 rfl ?_
      refine aw_iload_n (n := 104) (i := 3) dX12_turnOn_103 rfl rfl rfl ?_
      refine aw_iload (n := 106) (i := 5) dX12_turnOn_104 rfl rfl ?_
      obtain ⟨g_9, h⟩ := Ok.gd h
      obtain ⟨D_10, e_D_10, h⟩ := Ok.let_ h
      refine aw_iastore (n := 107) hG.1 (sF_106 hS) (aIn_in g_9) e_D_10 dX12_turnOn_106 rfl ?_
      refine aw_aload_n (n := 108) (i := 0) dX12_turnOn_107 rfl rfl rfl ?_
      refine aw_iload_n (n := 109) (i := 1) dX12_turnOn_108 rfl rfl rfl ?_
      refine aw_iload_n (n := 110) (i := 2) dX12_turnOn_109 rfl rfl rfl ?_
      refine aw_iconst (n := 111) (v := 1) dX12_turnOn_110 rfl (by decide) ?_
      refine aw_iadd (n := 112) dX12_turnOn_111 rfl ?_
      refine aw_cVv (M := M_X12_turnOn) (n := 115) (As := [.int v1, .int (v2 + 1)]) (rest := []) hG.1 lk_RX12_374 rfl rfl (sF_88 hS) (c_X12_turnOn_L7 hG hS (h := Ok.bind h)) (by decide) (Nat.le_of_ble_eq_true rfl) (by decide) (by decide) dX12_turnOn_112 rfl (fun D_11 h => ?_)
      obtain ⟨v5_12, e_v5_12, h⟩ := Ok.let_ h
      refine aw_iinc (n := 118) (al' := [some (.ref 88), some (.int v1), some (.int v2), some (.int v3), some (.int v4), some (.int v5_12)]) dX12_turnOn_115 rfl rfl e_v5_12 (by decide) rfl ?_
      refine aw_goto (tgt := 81) dX12_turnOn_118 (by decide) ?_
      exact aw_le' (hL81 (v5_12, D_11) (Ok.dn h :)) ⟨rfl, ⟨rfl, ⟨rfl, ⟨rfl, ⟨rfl, ⟨rfl, trivial⟩⟩⟩⟩⟩⟩
  refine aw_iload_n (n := 1) (i := 2) dX12_turnOn_0 rfl rfl rfl ?_
  refine aw_aload_n (n := 2) (i := 0) dX12_turnOn_1 rfl rfl rfl ?_
  refine aw_getI (n := 5) (j := 41) hG.1 fl_RX12_368 (sF_88 hS) rfl dX12_turnOn_2 rfl ?_
  refine aw_icmp_ne (n := 8) (tgt := 63) dX12_turnOn_5 rfl (by decide) (fun c => ?_) (fun c => ?_)
  · replace h := Ok.ift h c
    refine aw_aload_n (n := 64) (i := 0) dX12_turnOn_63 rfl rfl rfl ?_
    refine aw_getR (n := 67) (j := 39) (r := 113) hG.1 fl_RX12_100 (sF_88 hS) rfl dX12_turnOn_64 rfl ?_
    refine aw_iload_n (n := 68) (i := 2) dX12_turnOn_67 rfl rfl rfl ?_
    obtain ⟨g_1, h⟩ := Ok.gd h
    refine aw_iaload (n := 69) hG.1 (sF_113 hS) (aIn_in g_1) dX12_turnOn_68 rfl ?_
    obtain ⟨v3_2, e_v3_2, h⟩ := Ok.let_ h
    refine aw_istore_n (n := 70) (i := 3) (al' := [some (.ref 88), some (.int v1), some (.int v2), some (.int v3_2), none, none]) dX12_turnOn_69 rfl rfl e_v3_2 (by decide) rfl ?_
    refine aw_aload_n (n := 71) (i := 0) dX12_turnOn_70 rfl rfl rfl ?_
    refine aw_getR (n := 74) (j := 28) (r := 106) hG.1 fl_RX12_76 (sF_88 hS) rfl dX12_turnOn_71 rfl ?_
    refine aw_iload_n (n := 75) (i := 3) dX12_turnOn_74 rfl rfl rfl ?_
    obtain ⟨g_3, h⟩ := Ok.gd h
    refine aw_iaload (n := 76) hG.1 (sF_106 hS) (aIn_in g_3) dX12_turnOn_75 rfl ?_
    obtain ⟨v4_4, e_v4_4, h⟩ := Ok.let_ h
    refine aw_istore (n := 78) (i := 4) (al' := [some (.ref 88), some (.int v1), some (.int v2), some (.int v3_2), some (.int v4_4), none]) dX12_turnOn_76 rfl e_v4_4 (by decide) rfl ?_
    refine aw_iconst (n := 79) (v := 0) dX12_turnOn_78 rfl (by decide) ?_
    refine aw_istore (n := 81) (i := 5) (al' := [some (.ref 88), some (.int v1), some (.int v2), some (.int v3_2), some (.int v4_4), some (.int 0)]) dX12_turnOn_79 rfl rfl (by decide) rfl ?_
    exact aw_le' (hJ_81 v1 v2 v3_2 v4_4 0 D h) ⟨rfl, ⟨rfl, ⟨rfl, ⟨rfl, ⟨rfl, ⟨rfl, trivial⟩⟩⟩⟩⟩⟩
  · replace h := Ok.iffn h c
    refine aw_aload_n (n := 9) (i := 0) dX12_turnOn_8 rfl rfl rfl ?_
    refine aw_iload_n (n := 10) (i := 1) dX12_turnOn_9 rfl rfl rfl ?_
    refine aw_cVi (M := M_X12_turnOn) (n := 13) (As := [.int v1]) (rest := []) hG.1 lk_RX12_362 rfl rfl (sF_88 hS) (c_X12_weightsOf hG hS (h := Ok.bi h)) (by decide) (Nat.le_of_ble_eq_true rfl) (by decide) (by decide) dX12_turnOn_10 rfl (fun y_13 D_14 h => ?_)
    refine aw_istore_n (n := 14) (i := 3) (al' := [some (.ref 88), some (.int v1), some (.int v2), some (.int y_13), none, none]) dX12_turnOn_13 rfl rfl rfl (by decide) rfl ?_
    refine aw_iload_n (n := 15) (i := 3) dX12_turnOn_14 rfl rfl rfl ?_
    refine aw_aload_n (n := 16) (i := 0) dX12_turnOn_15 rfl rfl rfl ?_
    refine aw_getI (n := 19) (j := 42) hG.1 fl_RX12_371 (sF_88 hS) rfl dX12_turnOn_16 rfl ?_
    refine aw_icmp_gt (n := 22) (tgt := 23) dX12_turnOn_19 rfl (by decide) (fun c => ?_) (fun c => ?_)
    · replace h := Ok.ift h c
      refine aw_aload_n (n := 24) (i := 0) dX12_turnOn_23 rfl rfl rfl ?_
      refine aw_iload_n (n := 25) (i := 3) dX12_turnOn_24 rfl rfl rfl ?_
      obtain ⟨D_15, e_D_15, h⟩ := Ok.let_ h
      refine aw_putI (n := 28) (j := 42) hG.1 fl_RX12_371 (sF_88 hS) rfl e_D_15 dX12_turnOn_25 rfl ?_
      refine aw_iconst (n := 29) (v := 0) dX12_turnOn_28 rfl (by decide) ?_
      refine aw_istore (n := 31) (i := 4) (al' := [some (.ref 88), some (.int v1), some (.int v2), some (.int y_13), some (.int 0), none]) dX12_turnOn_29 rfl rfl (by decide) rfl ?_
      exact aw_le' (hJ_31 v2 0 D_15 h) ⟨rfl, ⟨rfl, ⟨rfl, trivial⟩⟩⟩
    · replace h := Ok.iff h c
      exact aw_vret rfl (by decide) (by decide) dX12_turnOn_22 ⟨rfl, rfl, (Ok.dn h :)⟩
set_option maxRecDepth 100000 in
set_option maxHeartbeats 800000 in
theorem c_X12_turnOn {G : aG} (hG : gOK G) {shp : List aSh} (hS : aShp shp) {fr : Option Nat} {v1 : Int32} {v2 : Int32} {D : aD} {K : aD → Prop} (h : Ok (f_X12_turnOn v1 v2 D) K) : AC G (aRm 14 0 0) M_X12_turnOn [.ref 88, .int v1, .int v2] fr shp D (aQv shp K) := c_X12_turnOn_L8 hG hS h
theorem dX12_tellBest_0 : decode cX12_tellBest 0 = .ok (.aload_n 0, 1) := by decide +kernel
theorem dX12_tellBest_1 : decode cX12_tellBest 1 = .ok (.iload_n 1, 1) := by decide +kernel
theorem dX12_tellBest_2 : decode cX12_tellBest 2 = .ok (.invokevirtual 377, 3) := by decide +kernel
theorem dX12_tellBest_5 : decode cX12_tellBest 5 = .ok (.aload_n 0, 1) := by decide +kernel
theorem dX12_tellBest_6 : decode cX12_tellBest 6 = .ok (.getfield 368, 3) := by decide +kernel
theorem dX12_tellBest_9 : decode cX12_tellBest 9 = .ok (.bipush 6, 2) := by decide +kernel
theorem dX12_tellBest_11 : decode cX12_tellBest 11 = .ok (.if_icmp .le 5, 3) := by decide +kernel
theorem dX12_tellBest_14 : decode cX12_tellBest 14 = .ok (.iconst 0, 1) := by decide +kernel
theorem dX12_tellBest_15 : decode cX12_tellBest 15 = .ok (.ireturn, 1) := by decide +kernel
theorem dX12_tellBest_16 : decode cX12_tellBest 16 = .ok (.aload_n 0, 1) := by decide +kernel
theorem dX12_tellBest_17 : decode cX12_tellBest 17 = .ok (.iconst (-1), 1) := by decide +kernel
theorem dX12_tellBest_18 : decode cX12_tellBest 18 = .ok (.putfield 371, 3) := by decide +kernel
theorem dX12_tellBest_21 : decode cX12_tellBest 21 = .ok (.aload_n 0, 1) := by decide +kernel
theorem dX12_tellBest_22 : decode cX12_tellBest 22 = .ok (.iload_n 1, 1) := by decide +kernel
theorem dX12_tellBest_23 : decode cX12_tellBest 23 = .ok (.iconst 0, 1) := by decide +kernel
theorem dX12_tellBest_24 : decode cX12_tellBest 24 = .ok (.invokevirtual 374, 3) := by decide +kernel
theorem dX12_tellBest_27 : decode cX12_tellBest 27 = .ok (.iconst 1, 1) := by decide +kernel
theorem dX12_tellBest_28 : decode cX12_tellBest 28 = .ok (.ireturn, 1) := by decide +kernel
def f_X12_tellBest (v1 : Int32) (D : aD) : Option (Int32 × aD) :=
  (f_X12_tellMine v1 D).bind (fun D_1 => if gI D_1 88 41 ≤ 6 then (aLet (pI D_1 88 42 (-1)) (fun D_2 => (f_X12_turnOn v1 0 D_2).bind (fun D_3 => some (1, D_3)))) else (some (0, D_1)))
set_option maxRecDepth 100000 in
set_option maxHeartbeats 800000 in
theorem c_X12_tellBest {G : aG} (hG : gOK G) {shp : List aSh} (hS : aShp shp) {fr : Option Nat} {v1 : Int32} {D : aD} {K : Int32 → aD → Prop} (h : Ok2 (f_X12_tellBest v1 D) K) : AC G (aRm 15 0 0) M_X12_tellBest [.ref 88, .int v1] fr shp D (aQi shp K) := by
  replace h := Ok2.ok h
  unfold f_X12_tellBest at h
  refine AC.of (al := [some (.ref 88), some (.int v1)]) (r := 0) (by decide) (Nat.le_of_ble_eq_true rfl) rfl ?_
  refine aw_aload_n (n := 1) (i := 0) dX12_tellBest_0 rfl rfl rfl ?_
  refine aw_iload_n (n := 2) (i := 1) dX12_tellBest_1 rfl rfl rfl ?_
  refine aw_cVv (M := M_X12_tellBest) (n := 5) (As := [.int v1]) (rest := []) hG.1 lk_RX12_377 rfl rfl (sF_88 hS) (c_X12_tellMine hG hS (h := Ok.bind h)) (by decide) (Nat.le_of_ble_eq_true rfl) (by decide) (by decide) dX12_tellBest_2 rfl (fun D_1 h => ?_)
  refine aw_aload_n (n := 6) (i := 0) dX12_tellBest_5 rfl rfl rfl ?_
  refine aw_getI (n := 9) (j := 41) hG.1 fl_RX12_368 (sF_88 hS) rfl dX12_tellBest_6 rfl ?_
  refine aw_bipush (n := 11) (v := 6) dX12_tellBest_9 rfl (by decide) ?_
  refine aw_icmp_le (n := 14) (tgt := 16) dX12_tellBest_11 rfl (by decide) (fun c => ?_) (fun c => ?_)
  · replace h := Ok.ift h c
    refine aw_aload_n (n := 17) (i := 0) dX12_tellBest_16 rfl rfl rfl ?_
    refine aw_iconst (n := 18) (v := (-1)) dX12_tellBest_17 rfl (by decide) ?_
    obtain ⟨D_2, e_D_2, h⟩ := Ok.let_ h
    refine aw_putI (n := 21) (j := 42) hG.1 fl_RX12_371 (sF_88 hS) rfl e_D_2 dX12_tellBest_18 rfl ?_
    refine aw_aload_n (n := 22) (i := 0) dX12_tellBest_21 rfl rfl rfl ?_
    refine aw_iload_n (n := 23) (i := 1) dX12_tellBest_22 rfl rfl rfl ?_
    refine aw_iconst (n := 24) (v := 0) dX12_tellBest_23 rfl (by decide) ?_
    refine aw_cVv (M := M_X12_tellBest) (n := 27) (As := [.int v1, .int 0]) (rest := []) hG.1 lk_RX12_374 rfl rfl (sF_88 hS) (c_X12_turnOn hG hS (h := Ok.bind h)) (by decide) (Nat.le_of_ble_eq_true rfl) (by decide) (by decide) dX12_tellBest_24 rfl (fun D_3 h => ?_)
    refine aw_iconst (n := 28) (v := 1) dX12_tellBest_27 rfl (by decide) ?_
    exact aw_zret rfl (by decide) (by decide) (by decide) dX12_tellBest_28 ⟨_, rfl, rfl, (Ok.dn h :)⟩
  · replace h := Ok.iff h c
    refine aw_iconst (n := 15) (v := 0) dX12_tellBest_14 rfl (by decide) ?_
    exact aw_zret rfl (by decide) (by decide) (by decide) dX12_tellBest_15 ⟨_, rfl, rfl, (Ok.dn h :)⟩
theorem dX12_best_0 : decode cX12_best 0 = .ok (.aload_n 0, 1) := by decide +kernel
theorem dX12_best_1 : decode cX12_best 1 = .ok (.iconst 0, 1) := by decide +kernel
theorem dX12_best_2 : decode cX12_best 2 = .ok (.putfield 157, 3) := by decide +kernel
theorem dX12_best_5 : decode cX12_best 5 = .ok (.aload_n 0, 1) := by decide +kernel
theorem dX12_best_6 : decode cX12_best 6 = .ok (.iload_n 1, 1) := by decide +kernel
theorem dX12_best_7 : decode cX12_best 7 = .ok (.invokevirtual 343, 3) := by decide +kernel
theorem dX12_best_10 : decode cX12_best 10 = .ok (.ifCond .eq 12, 3) := by decide +kernel
theorem dX12_best_13 : decode cX12_best 13 = .ok (.iload_n 2, 1) := by decide +kernel
theorem dX12_best_14 : decode cX12_best 14 = .ok (.ifCond .lt 8, 3) := by decide +kernel
theorem dX12_best_17 : decode cX12_best 17 = .ok (.iload_n 2, 1) := by decide +kernel
theorem dX12_best_18 : decode cX12_best 18 = .ok (.iconst 1, 1) := by decide +kernel
theorem dX12_best_19 : decode cX12_best 19 = .ok (.if_icmp .le 9, 3) := by decide +kernel
theorem dX12_best_22 : decode cX12_best 22 = .ok (.aload_n 0, 1) := by decide +kernel
theorem dX12_best_23 : decode cX12_best 23 = .ok (.iconst 1, 1) := by decide +kernel
theorem dX12_best_24 : decode cX12_best 24 = .ok (.invokevirtual 290, 3) := by decide +kernel
theorem dX12_best_27 : decode cX12_best 27 = .ok (.ireturn, 1) := by decide +kernel
theorem dX12_best_28 : decode cX12_best 28 = .ok (.aload_n 0, 1) := by decide +kernel
theorem dX12_best_29 : decode cX12_best 29 = .ok (.iload_n 1, 1) := by decide +kernel
theorem dX12_best_30 : decode cX12_best 30 = .ok (.invokevirtual 380, 3) := by decide +kernel
theorem dX12_best_33 : decode cX12_best 33 = .ok (.ifCond .ne 6, 3) := by decide +kernel
theorem dX12_best_36 : decode cX12_best 36 = .ok (.bipush (-2), 2) := by decide +kernel
theorem dX12_best_38 : decode cX12_best 38 = .ok (.ireturn, 1) := by decide +kernel
theorem dX12_best_39 : decode cX12_best 39 = .ok (.iconst 0, 1) := by decide +kernel
theorem dX12_best_40 : decode cX12_best 40 = .ok (.istore_n 3, 1) := by decide +kernel
theorem dX12_best_41 : decode cX12_best 41 = .ok (.iconst 0, 1) := by decide +kernel
theorem dX12_best_42 : decode cX12_best 42 = .ok (.istore 4, 2) := by decide +kernel
theorem dX12_best_44 : decode cX12_best 44 = .ok (.iload 4, 2) := by decide +kernel
theorem dX12_best_46 : decode cX12_best 46 = .ok (.aload_n 0, 1) := by decide +kernel
theorem dX12_best_47 : decode cX12_best 47 = .ok (.getfield 368, 3) := by decide +kernel
theorem dX12_best_50 : decode cX12_best 50 = .ok (.if_icmp .ge 21, 3) := by decide +kernel
theorem dX12_best_53 : decode cX12_best 53 = .ok (.iconst 3, 1) := by decide +kernel
theorem dX12_best_54 : decode cX12_best 54 = .ok (.iload_n 3, 1) := by decide +kernel
theorem dX12_best_55 : decode cX12_best 55 = .ok (.imul, 1) := by decide +kernel
theorem dX12_best_56 : decode cX12_best 56 = .ok (.aload_n 0, 1) := by decide +kernel
theorem dX12_best_57 : decode cX12_best 57 = .ok (.getfield 103, 3) := by decide +kernel
theorem dX12_best_60 : decode cX12_best 60 = .ok (.iload 4, 2) := by decide +kernel
theorem dX12_best_62 : decode cX12_best 62 = .ok (.iaload, 1) := by decide +kernel
theorem dX12_best_63 : decode cX12_best 63 = .ok (.iadd, 1) := by decide +kernel
theorem dX12_best_64 : decode cX12_best 64 = .ok (.istore_n 3, 1) := by decide +kernel
theorem dX12_best_65 : decode cX12_best 65 = .ok (.iinc 4 1, 3) := by decide +kernel
theorem dX12_best_68 : decode cX12_best 68 = .ok (.goto (-24), 3) := by decide +kernel
theorem dX12_best_71 : decode cX12_best 71 = .ok (.iload_n 2, 1) := by decide +kernel
theorem dX12_best_72 : decode cX12_best 72 = .ok (.ifCond .ne 10, 3) := by decide +kernel
theorem dX12_best_75 : decode cX12_best 75 = .ok (.aload_n 0, 1) := by decide +kernel
theorem dX12_best_76 : decode cX12_best 76 = .ok (.getfield 371, 3) := by decide +kernel
theorem dX12_best_79 : decode cX12_best 79 = .ok (.goto 4, 3) := by decide +kernel
theorem dX12_best_82 : decode cX12_best 82 = .ok (.iload_n 3, 1) := by decide +kernel
theorem dX12_best_83 : decode cX12_best 83 = .ok (.ireturn, 1) := by decide +kernel
def J_X12_best_71 (v2 : Int32) (v3 : Int32) (D : aD) : Option (Int32 × aD) :=
  if v2 ≠ 0 then (some (v3, D)) else (some (gI D 88 42, D))
def B_X12_best_44 (v2 : Int32) (v3 : Int32) (v4 : Int32) (D : aD) : Option ((Int32 × Int32 × aD) ⊕ ((Int32 × aD))) :=
  if gI D 88 41 ≤ v4 then (some (.inr (v3, D))) else (aGd (aIn v4 12) (aLet ((3 * v3) + (gI D 114 v4.toNatClampNeg)) (fun v3_11 => aLet (v4 + 1) (fun v4_12 => some (.inl (v3_11, v4_12, D))))))
def J_X12_best_44 (v2 : Int32) (v3 : Int32) (v4 : Int32) (D : aD) : Option (Int32 × aD) :=
  (aLp (fun s => B_X12_best_44 v2 s.1 s.2.1 s.2.2) (v3, v4, D)).bind (fun r => J_X12_best_71 v2 (r.1) r.2)
def f_X12_best (v1 : Int32) (v2 : Int32) (D : aD) : Option (Int32 × aD) :=
  aLet (pI D 88 2 0) (fun D_1 => aBi (f_X12_isGarden v1 D_1) (fun y_2 D_3 => if y_2 = 0 then (aBi (f_X12_fail 1 D_3) (fun y_4 D_5 => some (y_4, D_5))) else (if v2 < 0 then (aBi (f_X12_fail 1 D_3) (fun y_6 D_7 => some (y_6, D_7))) else (if v2 ≤ 1 then (aBi (f_X12_tellBest v1 D_3) (fun y_8 D_9 => if y_8 ≠ 0 then (J_X12_best_44 v2 0 0 D_9) else (some ((-2), D_9)))) else (aBi (f_X12_fail 1 D_3) (fun y_13 D_14 => some (y_13, D_14)))))))
set_option maxRecDepth 100000 in
set_option maxHeartbeats 800000 in
theorem c_X12_best {G : aG} (hG : gOK G) {shp : List aSh} (hS : aShp shp) {fr : Option Nat} {v1 : Int32} {v2 : Int32} {D : aD} {K : Int32 → aD → Prop} (h : Ok2 (f_X12_best v1 v2 D) K) : AC G (aRm 16 0 0) M_X12_best [.ref 88, .int v1, .int v2] fr shp D (aQi shp K) := by
  replace h := Ok2.ok h
  unfold f_X12_best at h
  refine AC.of (al := [some (.ref 88), some (.int v1), some (.int v2), none, none]) (r := 2) (by decide) (Nat.le_of_ble_eq_true rfl) rfl ?_
  have hJ_71 : ∀ (v2 : Int32) (v3 : Int32) (D : aD), Ok (J_X12_best_71 v2 v3 D) (fun r => K r.1 r.2) → AW G (aRm 16 0 0) M_X12_best fr 0 0 71 [some (.ref 88), none, some (.int v2), some (.int v3), none] [] shp D (aQi shp K) := by
    intro v2 v3 D h
    unfold J_X12_best_71 at h
    refine aw_iload_n (n := 72) (i := 2) dX12_best_71 rfl rfl rfl ?_
    refine aw_if_ne (n := 75) (tgt := 82) dX12_best_72 rfl (by decide) (fun c => ?_) (fun c => ?_)
    · replace h := Ok.ift h c
      refine aw_iload_n (n := 83) (i := 3) dX12_best_82 rfl rfl rfl ?_
      exact aw_iret rfl (by decide) (by decide) dX12_best_83 ⟨_, rfl, rfl, (Ok.dn h :)⟩
    · replace h := Ok.iffn h c
      refine aw_aload_n (n := 76) (i := 0) dX12_best_75 rfl rfl rfl ?_
      refine aw_getI (n := 79) (j := 42) hG.1 fl_RX12_371 (sF_88 hS) rfl dX12_best_76 rfl ?_
      refine aw_goto (tgt := 83) dX12_best_79 (by decide) ?_
      exact aw_iret rfl (by decide) (by decide) dX12_best_83 ⟨_, rfl, rfl, (Ok.dn h :)⟩
  have hJ_44 : ∀ (v2 : Int32) (v3 : Int32) (v4 : Int32) (D : aD), Ok (J_X12_best_44 v2 v3 v4 D) (fun r => K r.1 r.2) → AW G (aRm 16 0 0) M_X12_best fr 0 0 44 [some (.ref 88), none, some (.int v2), some (.int v3), some (.int v4)] [] shp D (aQi shp K) := by
    intro v2 v3 v4 D h
    unfold J_X12_best_44 at h
    refine Ok.lp (P := fun s => AW G (aRm 16 0 0) M_X12_best fr 0 0 44 [some (.ref 88), none, some (.int v2), some (.int (s.1)), some (.int (s.2.1))] [] shp s.2.2 (aQi shp K)) (fun s Kb44 hL44 hR44 h => ?_) (v3, v4, D) (Ok.bind h)
    obtain ⟨v3, v4, D⟩ := s
    replace h : Ok (B_X12_best_44 v2 v3 v4 D) Kb44 := h
    unfold B_X12_best_44 at h
    refine aw_iload (n := 46) (i := 4) dX12_best_44 rfl rfl ?_
    refine aw_aload_n (n := 47) (i := 0) dX12_best_46 rfl rfl rfl ?_
    refine aw_getI (n := 50) (j := 41) hG.1 fl_RX12_368 (sF_88 hS) rfl dX12_best_47 rfl ?_
    refine aw_icmp_ge (n := 53) (tgt := 71) dX12_best_50 rfl (by decide) (fun c => ?_) (fun c => ?_)
    · replace h := Ok.ift h c
      exact aw_le' (hJ_71 v2 v3 D (hR44 (v3, D) (Ok.dn h :))) ⟨rfl, ⟨rfl, ⟨rfl, trivial⟩⟩⟩
    · replace h := Ok.iff h c
      refine aw_iconst (n := 54) (v := 3) dX12_best_53 rfl (by decide) ?_
      refine aw_iload_n (n := 55) (i := 3) dX12_best_54 rfl rfl rfl ?_
      refine aw_imul (n := 56) dX12_best_55 rfl ?_
      refine aw_aload_n (n := 57) (i := 0) dX12_best_56 rfl rfl rfl ?_
      refine aw_getR (n := 60) (j := 40) (r := 114) hG.1 fl_RX12_103 (sF_88 hS) rfl dX12_best_57 rfl ?_
      refine aw_iload (n := 62) (i := 4) dX12_best_60 rfl rfl ?_
      obtain ⟨g_10, h⟩ := Ok.gd h
      refine aw_iaload (n := 63) hG.1 (sF_114 hS) (aIn_in g_10) dX12_best_62 rfl ?_
      refine aw_iadd (n := 64) dX12_best_63 rfl ?_
      obtain ⟨v3_11, e_v3_11, h⟩ := Ok.let_ h
      refine aw_istore_n (n := 65) (i := 3) (al' := [some (.ref 88), none, some (.int v2), some (.int v3_11), some (.int v4)]) dX12_best_64 rfl rfl e_v3_11 (by decide) rfl ?_
      obtain ⟨v4_12, e_v4_12, h⟩ := Ok.let_ h
      refine aw_iinc (n := 68) (al' := [some (.ref 88), none, some (.int v2), some (.int v3_11), some (.int v4_12)]) dX12_best_65 rfl rfl e_v4_12 (by decide) rfl ?_
      refine aw_goto (tgt := 44) dX12_best_68 (by decide) ?_
      exact aw_le' (hL44 (v3_11, v4_12, D) (Ok.dn h :)) ⟨rfl, ⟨rfl, ⟨rfl, ⟨rfl, trivial⟩⟩⟩⟩
  refine aw_aload_n (n := 1) (i := 0) dX12_best_0 rfl rfl rfl ?_
  refine aw_iconst (n := 2) (v := 0) dX12_best_1 rfl (by decide) ?_
  obtain ⟨D_1, e_D_1, h⟩ := Ok.let_ h
  refine aw_putI (n := 5) (j := 2) hG.1 fl_RX12_157 (sF_88 hS) rfl e_D_1 dX12_best_2 rfl ?_
  refine aw_aload_n (n := 6) (i := 0) dX12_best_5 rfl rfl rfl ?_
  refine aw_iload_n (n := 7) (i := 1) dX12_best_6 rfl rfl rfl ?_
  refine aw_cVi (M := M_X12_best) (n := 10) (As := [.int v1]) (rest := []) hG.1 lk_RX12_343 rfl rfl (sF_88 hS) (c_X12_isGarden hG hS (h := Ok.bi h)) (by decide) (Nat.le_of_ble_eq_true rfl) (by decide) (by decide) dX12_best_7 rfl (fun y_2 D_3 h => ?_)
  refine aw_if_eq (n := 13) (tgt := 22) dX12_best_10 rfl (by decide) (fun c => ?_) (fun c => ?_)
  · replace h := Ok.ift h c
    refine aw_aload_n (n := 23) (i := 0) dX12_best_22 rfl rfl rfl ?_
    refine aw_iconst (n := 24) (v := 1) dX12_best_23 rfl (by decide) ?_
    refine aw_cVi (M := M_X12_best) (n := 27) (As := [.int 1]) (rest := []) hG.1 lk_RX12_290 rfl rfl (sF_88 hS) (c_X12_fail hG hS (h := Ok.bi h)) (by decide) (Nat.le_of_ble_eq_true rfl) (by decide) (by decide) dX12_best_24 rfl (fun y_4 D_5 h => ?_)
    exact aw_iret rfl (by decide) (by decide) dX12_best_27 ⟨_, rfl, rfl, (Ok.dn h :)⟩
  · replace h := Ok.iff h c
    refine aw_iload_n (n := 14) (i := 2) dX12_best_13 rfl rfl rfl ?_
    refine aw_if_lt (n := 17) (tgt := 22) dX12_best_14 rfl (by decide) (fun c => ?_) (fun c => ?_)
    · replace h := Ok.ift h c
      refine aw_aload_n (n := 23) (i := 0) dX12_best_22 rfl rfl rfl ?_
      refine aw_iconst (n := 24) (v := 1) dX12_best_23 rfl (by decide) ?_
      refine aw_cVi (M := M_X12_best) (n := 27) (As := [.int 1]) (rest := []) hG.1 lk_RX12_290 rfl rfl (sF_88 hS) (c_X12_fail hG hS (h := Ok.bi h)) (by decide) (Nat.le_of_ble_eq_true rfl) (by decide) (by decide) dX12_best_24 rfl (fun y_6 D_7 h => ?_)
      exact aw_iret rfl (by decide) (by decide) dX12_best_27 ⟨_, rfl, rfl, (Ok.dn h :)⟩
    · replace h := Ok.iff h c
      refine aw_iload_n (n := 18) (i := 2) dX12_best_17 rfl rfl rfl ?_
      refine aw_iconst (n := 19) (v := 1) dX12_best_18 rfl (by decide) ?_
      refine aw_icmp_le (n := 22) (tgt := 28) dX12_best_19 rfl (by decide) (fun c => ?_) (fun c => ?_)
      · replace h := Ok.ift h c
        refine aw_aload_n (n := 29) (i := 0) dX12_best_28 rfl rfl rfl ?_
        refine aw_iload_n (n := 30) (i := 1) dX12_best_29 rfl rfl rfl ?_
        refine aw_cVi (M := M_X12_best) (n := 33) (As := [.int v1]) (rest := []) hG.1 lk_RX12_380 rfl rfl (sF_88 hS) (c_X12_tellBest hG hS (h := Ok.bi h)) (by decide) (Nat.le_of_ble_eq_true rfl) (by decide) (by decide) dX12_best_30 rfl (fun y_8 D_9 h => ?_)
        refine aw_if_ne (n := 36) (tgt := 39) dX12_best_33 rfl (by decide) (fun c => ?_) (fun c => ?_)
        · replace h := Ok.ift h c
          refine aw_iconst (n := 40) (v := 0) dX12_best_39 rfl (by decide) ?_
          refine aw_istore_n (n := 41) (i := 3) (al' := [some (.ref 88), some (.int v1), some (.int v2), some (.int 0), none]) dX12_best_40 rfl rfl rfl (by decide) rfl ?_
          refine aw_iconst (n := 42) (v := 0) dX12_best_41 rfl (by decide) ?_
          refine aw_istore (n := 44) (i := 4) (al' := [some (.ref 88), some (.int v1), some (.int v2), some (.int 0), some (.int 0)]) dX12_best_42 rfl rfl (by decide) rfl ?_
          exact aw_le' (hJ_44 v2 0 0 D_9 h) ⟨rfl, ⟨rfl, ⟨rfl, ⟨rfl, trivial⟩⟩⟩⟩
        · replace h := Ok.iffn h c
          refine aw_bipush (n := 38) (v := (-2)) dX12_best_36 rfl (by decide) ?_
          exact aw_iret rfl (by decide) (by decide) dX12_best_38 ⟨_, rfl, rfl, (Ok.dn h :)⟩
      · replace h := Ok.iff h c
        refine aw_aload_n (n := 23) (i := 0) dX12_best_22 rfl rfl rfl ?_
        refine aw_iconst (n := 24) (v := 1) dX12_best_23 rfl (by decide) ?_
        refine aw_cVi (M := M_X12_best) (n := 27) (As := [.int 1]) (rest := []) hG.1 lk_RX12_290 rfl rfl (sF_88 hS) (c_X12_fail hG hS (h := Ok.bi h)) (by decide) (Nat.le_of_ble_eq_true rfl) (by decide) (by decide) dX12_best_24 rfl (fun y_13 D_14 h => ?_)
        exact aw_iret rfl (by decide) (by decide) dX12_best_27 ⟨_, rfl, rfl, (Ok.dn h :)⟩
theorem dX12_turnRound_0 : decode cX12_turnRound 0 = .ok (.iconst 0, 1) := by decide +kernel
theorem dX12_turnRound_1 : decode cX12_turnRound 1 = .ok (.istore_n 1, 1) := by decide +kernel
theorem dX12_turnRound_2 : decode cX12_turnRound 2 = .ok (.iconst 0, 1) := by decide +kernel
theorem dX12_turnRound_3 : decode cX12_turnRound 3 = .ok (.istore_n 2, 1) := by decide +kernel
theorem dX12_turnRound_4 : decode cX12_turnRound 4 = .ok (.iload_n 2, 1) := by decide +kernel
theorem dX12_turnRound_5 : decode cX12_turnRound 5 = .ok (.aload_n 0, 1) := by decide +kernel
theorem dX12_turnRound_6 : decode cX12_turnRound 6 = .ok (.getfield 27, 3) := by decide +kernel
theorem dX12_turnRound_9 : decode cX12_turnRound 9 = .ok (.iconst 3, 1) := by decide +kernel
theorem dX12_turnRound_10 : decode cX12_turnRound 10 = .ok (.iaload, 1) := by decide +kernel
theorem dX12_turnRound_11 : decode cX12_turnRound 11 = .ok (.if_icmp .ge 71, 3) := by decide +kernel
theorem dX12_turnRound_14 : decode cX12_turnRound 14 = .ok (.aload_n 0, 1) := by decide +kernel
theorem dX12_turnRound_15 : decode cX12_turnRound 15 = .ok (.iload_n 2, 1) := by decide +kernel
theorem dX12_turnRound_16 : decode cX12_turnRound 16 = .ok (.invokevirtual 362, 3) := by decide +kernel
theorem dX12_turnRound_19 : decode cX12_turnRound 19 = .ok (.istore_n 3, 1) := by decide +kernel
theorem dX12_turnRound_20 : decode cX12_turnRound 20 = .ok (.aload_n 0, 1) := by decide +kernel
theorem dX12_turnRound_21 : decode cX12_turnRound 21 = .ok (.iload_n 2, 1) := by decide +kernel
theorem dX12_turnRound_22 : decode cX12_turnRound 22 = .ok (.invokevirtual 380, 3) := by decide +kernel
theorem dX12_turnRound_25 : decode cX12_turnRound 25 = .ok (.pop, 1) := by decide +kernel
theorem dX12_turnRound_26 : decode cX12_turnRound 26 = .ok (.aload_n 0, 1) := by decide +kernel
theorem dX12_turnRound_27 : decode cX12_turnRound 27 = .ok (.getfield 371, 3) := by decide +kernel
theorem dX12_turnRound_30 : decode cX12_turnRound 30 = .ok (.iload_n 3, 1) := by decide +kernel
theorem dX12_turnRound_31 : decode cX12_turnRound 31 = .ok (.if_icmp .gt 6, 3) := by decide +kernel
theorem dX12_turnRound_34 : decode cX12_turnRound 34 = .ok (.goto 42, 3) := by decide +kernel
theorem dX12_turnRound_37 : decode cX12_turnRound 37 = .ok (.iconst 1, 1) := by decide +kernel
theorem dX12_turnRound_38 : decode cX12_turnRound 38 = .ok (.istore_n 1, 1) := by decide +kernel
theorem dX12_turnRound_39 : decode cX12_turnRound 39 = .ok (.iconst 0, 1) := by decide +kernel
theorem dX12_turnRound_40 : decode cX12_turnRound 40 = .ok (.istore 4, 2) := by decide +kernel
theorem dX12_turnRound_42 : decode cX12_turnRound 42 = .ok (.iload 4, 2) := by decide +kernel
theorem dX12_turnRound_44 : decode cX12_turnRound 44 = .ok (.aload_n 0, 1) := by decide +kernel
theorem dX12_turnRound_45 : decode cX12_turnRound 45 = .ok (.getfield 368, 3) := by decide +kernel
theorem dX12_turnRound_48 : decode cX12_turnRound 48 = .ok (.if_icmp .ge 28, 3) := by decide +kernel
theorem dX12_turnRound_51 : decode cX12_turnRound 51 = .ok (.aload_n 0, 1) := by decide +kernel
theorem dX12_turnRound_52 : decode cX12_turnRound 52 = .ok (.getfield 76, 3) := by decide +kernel
theorem dX12_turnRound_55 : decode cX12_turnRound 55 = .ok (.aload_n 0, 1) := by decide +kernel
theorem dX12_turnRound_56 : decode cX12_turnRound 56 = .ok (.getfield 100, 3) := by decide +kernel
theorem dX12_turnRound_59 : decode cX12_turnRound 59 = .ok (.iload 4, 2) := by decide +kernel
theorem dX12_turnRound_61 : decode cX12_turnRound 61 = .ok (.iaload, 1) := by decide +kernel
theorem dX12_turnRound_62 : decode cX12_turnRound 62 = .ok (.aload_n 0, 1) := by decide +kernel
theorem dX12_turnRound_63 : decode cX12_turnRound 63 = .ok (.getfield 103, 3) := by decide +kernel
theorem dX12_turnRound_66 : decode cX12_turnRound 66 = .ok (.iload 4, 2) := by decide +kernel
theorem dX12_turnRound_68 : decode cX12_turnRound 68 = .ok (.iaload, 1) := by decide +kernel
theorem dX12_turnRound_69 : decode cX12_turnRound 69 = .ok (.iastore, 1) := by decide +kernel
theorem dX12_turnRound_70 : decode cX12_turnRound 70 = .ok (.iinc 4 1, 3) := by decide +kernel
theorem dX12_turnRound_73 : decode cX12_turnRound 73 = .ok (.goto (-31), 3) := by decide +kernel
theorem dX12_turnRound_76 : decode cX12_turnRound 76 = .ok (.iinc 2 1, 3) := by decide +kernel
theorem dX12_turnRound_79 : decode cX12_turnRound 79 = .ok (.goto (-75), 3) := by decide +kernel
theorem dX12_turnRound_82 : decode cX12_turnRound 82 = .ok (.iload_n 1, 1) := by decide +kernel
theorem dX12_turnRound_83 : decode cX12_turnRound 83 = .ok (.ireturn, 1) := by decide +kernel
def J_X12_turnRound_82 (v1 : Int32) (D : aD) : Option (Int32 × aD) :=
  aGd (aZ v1) (some (v1, D))
def J_X12_turnRound_76 (v1 : Int32) (v2 : Int32) (D : aD) : Option ((Int32 × Int32 × aD) ⊕ ((Int32 × aD))) :=
  aLet (v2 + 1) (fun v2_7 => some (.inl (v1, v2_7, D)))
def B_X12_turnRound_42 (v1 : Int32) (v2 : Int32) (v4 : Int32) (D : aD) : Option ((Int32 × aD) ⊕ ((aD))) :=
  if gI D 88 41 ≤ v4 then (some (.inr D)) else (aGd (aIn v4 12) (aGd (aIn v4 12) (aGd (aIn (gI D 113 v4.toNatClampNeg) 13) (aLet (pI D 106 (gI D 113 v4.toNatClampNeg).toNatClampNeg (gI D 114 v4.toNatClampNeg)) (fun D_11 => aLet (v4 + 1) (fun v4_12 => some (.inl (v4_12, D_11))))))))
def J_X12_turnRound_42 (v1 : Int32) (v2 : Int32) (v4 : Int32) (D : aD) : Option ((Int32 × Int32 × aD) ⊕ ((Int32 × aD))) :=
  (aLp (fun s => B_X12_turnRound_42 v1 v2 s.1 s.2) (v4, D)).bind (fun r => J_X12_turnRound_76 v1 v2 r)
def B_X12_turnRound_4 (v1 : Int32) (v2 : Int32) (D : aD) : Option ((Int32 × Int32 × aD) ⊕ ((Int32 × aD))) :=
  aGd (aIn 3 32) (if gI D 91 (3 : Int32).toNatClampNeg ≤ v2 then (some (.inr (v1, D))) else (aBi (f_X12_weightsOf v2 D) (fun y_3 D_4 => aBi (f_X12_tellBest v2 D_4) (fun y_5 D_6 => if y_3 < gI D_6 88 42 then (J_X12_turnRound_42 1 v2 0 D_6) else (J_X12_turnRound_76 v1 v2 D_6)))))
def J_X12_turnRound_4 (v1 : Int32) (v2 : Int32) (D : aD) : Option (Int32 × aD) :=
  (aLp (fun s => B_X12_turnRound_4 s.1 s.2.1 s.2.2) (v1, v2, D)).bind (fun r => J_X12_turnRound_82 (r.1) r.2)
def f_X12_turnRound (D : aD) : Option (Int32 × aD) :=
  J_X12_turnRound_4 0 0 D
set_option maxRecDepth 100000 in
set_option maxHeartbeats 800000 in
theorem c_X12_turnRound {G : aG} (hG : gOK G) {shp : List aSh} (hS : aShp shp) {fr : Option Nat} {D : aD} {K : Int32 → aD → Prop} (h : Ok2 (f_X12_turnRound D) K) : AC G (aRm 16 0 0) M_X12_turnRound [.ref 88] fr shp D (aQi shp K) := by
  replace h := Ok2.ok h
  unfold f_X12_turnRound at h
  refine AC.of (al := [some (.ref 88), none, none, none, none]) (r := 4) (by decide) (Nat.le_of_ble_eq_true rfl) rfl ?_
  have hJ_82 : ∀ (v1 : Int32) (D : aD), Ok (J_X12_turnRound_82 v1 D) (fun r => K r.1 r.2) → AW G (aRm 16 0 0) M_X12_turnRound fr 0 0 82 [none, some (.int v1), none, none, none] [] shp D (aQi shp K) := by
    intro v1 D h
    unfold J_X12_turnRound_82 at h
    refine aw_iload_n (n := 83) (i := 1) dX12_turnRound_82 rfl rfl rfl ?_
    obtain ⟨g_1, h⟩ := Ok.gd h
    exact aw_zret rfl (aZ_or g_1) (by decide) (by decide) dX12_turnRound_83 ⟨_, rfl, rfl, (Ok.dn h :)⟩
  have hJ_4 : ∀ (v1 : Int32) (v2 : Int32) (D : aD), Ok (J_X12_turnRound_4 v1 v2 D) (fun r => K r.1 r.2) → AW G (aRm 16 0 0) M_X12_turnRound fr 0 0 4 [some (.ref 88), some (.int v1), some (.int v2), none, none] [] shp D (aQi shp K) := by
    intro v1 v2 D h
    unfold J_X12_turnRound_4 at h
    refine Ok.lp (P := fun s => AW G (aRm 16 0 0) M_X12_turnRound fr 0 0 4 [some (.ref 88), some (.int (s.1)), some (.int (s.2.1)), none, none] [] shp s.2.2 (aQi shp K)) (fun s Kb4 hL4 hR4 h => ?_) (v1, v2, D) (Ok.bind h)
    obtain ⟨v1, v2, D⟩ := s
    replace h : Ok (B_X12_turnRound_4 v1 v2 D) Kb4 := h
    unfold B_X12_turnRound_4 at h
    have hJ_76 : ∀ (v1 : Int32) (v2 : Int32) (D : aD), Ok (J_X12_turnRound_76 v1 v2 D) Kb4 → AW G (aRm 16 0 0) M_X12_turnRound fr 0 0 76 [some (.ref 88), some (.int v1), some (.int v2), none, none] [] shp D (aQi shp K) := by
      intro v1 v2 D h
      unfold J_X12_turnRound_76 at h
      obtain ⟨v2_7, e_v2_7, h⟩ := Ok.let_ h
      refine aw_iinc (n := 79) (al' := [some (.ref 88), some (.int v1), some (.int v2_7), none, none]) dX12_turnRound_76 rfl rfl e_v2_7 (by decide) rfl ?_
      refine aw_goto (tgt := 4) dX12_turnRound_79 (by decide) ?_
      exact aw_le' (hL4 (v1, v2_7, D) (Ok.dn h :)) ⟨rfl, ⟨rfl, ⟨rfl, trivial⟩⟩⟩
    have hJ_42 : ∀ (v1 : Int32) (v2 : Int32) (v4 : Int32) (D : aD), Ok (J_X12_turnRound_42 v1 v2 v4 D) Kb4 → AW G (aRm 16 0 0) M_X12_turnRound fr 0 0 42 [some (.ref 88), some (.int v1), some (.int v2), none, some (.int v4)] [] shp D (aQi shp K) := by
      intro v1 v2 v4 D h
      unfold J_X12_turnRound_42 at h
      refine Ok.lp (P := fun s => AW G (aRm 16 0 0) M_X12_turnRound fr 0 0 42 [some (.ref 88), some (.int v1), some (.int v2), none, some (.int (s.1))] [] shp s.2 (aQi shp K)) (fun s Kb42 hL42 hR42 h => ?_) (v4, D) (Ok.bind h)
      obtain ⟨v4, D⟩ := s
      replace h : Ok (B_X12_turnRound_42 v1 v2 v4 D) Kb42 := h
      unfold B_X12_turnRound_42 at h
      refine aw_iload (n := 44) (i := 4) dX12_turnRound_42 rfl rfl ?_
      refine aw_aload_n (n := 45) (i := 0) dX12_turnRound_44 rfl rfl rfl ?_
      refine aw_getI (n := 48) (j := 41) hG.1 fl_RX12_368 (sF_88 hS) rfl dX12_turnRound_45 rfl ?_
      refine aw_icmp_ge (n := 51) (tgt := 76) dX12_turnRound_48 rfl (by decide) (fun c => ?_) (fun c => ?_)
      · replace h := Ok.ift h c
        exact aw_le' (hJ_76 v1 v2 D (hR42 D (Ok.dn h :))) ⟨rfl, ⟨rfl, ⟨rfl, trivial⟩⟩⟩
      · replace h := Ok.iff h c
        refine aw_aload_n (n := 52) (i := 0) dX12_turnRound_51 rfl rfl rfl ?_
        refine aw_getR (n := 55) (j := 28) (r := 106) hG.1 fl_RX12_76 (sF_88 hS) rfl dX12_turnRound_52 rfl ?_
        refine aw_aload_n (n := 56) (i := 0) dX12_turnRound_55 rfl rfl rfl ?_
        refine aw_getR (n := 59) (j := 39) (r := 113) hG.1 fl_RX12_100 (sF_88 hS) rfl dX12_turnRound_56 rfl ?_
        refine aw_iload (n := 61) (i := 4) dX12_turnRound_59 rfl rfl ?_
        obtain ⟨g_8, h⟩ := Ok.gd h
        refine aw_iaload (n := 62) hG.1 (sF_113 hS) (aIn_in g_8) dX12_turnRound_61 rfl ?_
        refine aw_aload_n (n := 63) (i := 0) dX12_turnRound_62 rfl rfl rfl ?_
        refine aw_getR (n := 66) (j := 40) (r := 114) hG.1 fl_RX12_103 (sF_88 hS) rfl dX12_turnRound_63 rfl ?_
        refine aw_iload (n := 68) (i := 4) dX12_turnRound_66 rfl rfl ?_
        obtain ⟨g_9, h⟩ := Ok.gd h
        refine aw_iaload (n := 69) hG.1 (sF_114 hS) (aIn_in g_9) dX12_turnRound_68 rfl ?_
        obtain ⟨g_10, h⟩ := Ok.gd h
        obtain ⟨D_11, e_D_11, h⟩ := Ok.let_ h
        refine aw_iastore (n := 70) hG.1 (sF_106 hS) (aIn_in g_10) e_D_11 dX12_turnRound_69 rfl ?_
        obtain ⟨v4_12, e_v4_12, h⟩ := Ok.let_ h
        refine aw_iinc (n := 73) (al' := [some (.ref 88), some (.int v1), some (.int v2), none, some (.int v4_12)]) dX12_turnRound_70 rfl rfl e_v4_12 (by decide) rfl ?_
        refine aw_goto (tgt := 42) dX12_turnRound_73 (by decide) ?_
        exact aw_le' (hL42 (v4_12, D_11) (Ok.dn h :)) ⟨rfl, ⟨rfl, ⟨rfl, ⟨rfl, trivial⟩⟩⟩⟩
    refine aw_iload_n (n := 5) (i := 2) dX12_turnRound_4 rfl rfl rfl ?_
    refine aw_aload_n (n := 6) (i := 0) dX12_turnRound_5 rfl rfl rfl ?_
    refine aw_getR (n := 9) (j := 3) (r := 91) hG.1 fl_RX12_27 (sF_88 hS) rfl dX12_turnRound_6 rfl ?_
    refine aw_iconst (n := 10) (v := 3) dX12_turnRound_9 rfl (by decide) ?_
    obtain ⟨g_2, h⟩ := Ok.gd h
    refine aw_iaload (n := 11) hG.1 (sF_91 hS) (aIn_in g_2) dX12_turnRound_10 rfl ?_
    refine aw_icmp_ge (n := 14) (tgt := 82) dX12_turnRound_11 rfl (by decide) (fun c => ?_) (fun c => ?_)
    · replace h := Ok.ift h c
      exact aw_le' (hJ_82 v1 D (hR4 (v1, D) (Ok.dn h :))) ⟨rfl, trivial⟩
    · replace h := Ok.iff h c
      refine aw_aload_n (n := 15) (i := 0) dX12_turnRound_14 rfl rfl rfl ?_
      refine aw_iload_n (n := 16) (i := 2) dX12_turnRound_15 rfl rfl rfl ?_
      refine aw_cVi (M := M_X12_turnRound) (n := 19) (As := [.int v2]) (rest := []) hG.1 lk_RX12_362 rfl rfl (sF_88 hS) (c_X12_weightsOf hG hS (h := Ok.bi h)) (by decide) (Nat.le_of_ble_eq_true rfl) (by decide) (by decide) dX12_turnRound_16 rfl (fun y_3 D_4 h => ?_)
      refine aw_istore_n (n := 20) (i := 3) (al' := [some (.ref 88), some (.int v1), some (.int v2), some (.int y_3), none]) dX12_turnRound_19 rfl rfl rfl (by decide) rfl ?_
      refine aw_aload_n (n := 21) (i := 0) dX12_turnRound_20 rfl rfl rfl ?_
      refine aw_iload_n (n := 22) (i := 2) dX12_turnRound_21 rfl rfl rfl ?_
      refine aw_cVi (M := M_X12_turnRound) (n := 25) (As := [.int v2]) (rest := []) hG.1 lk_RX12_380 rfl rfl (sF_88 hS) (c_X12_tellBest hG hS (h := Ok.bi h)) (by decide) (Nat.le_of_ble_eq_true rfl) (by decide) (by decide) dX12_turnRound_22 rfl (fun y_5 D_6 h => ?_)
      refine aw_pop (n := 26) dX12_turnRound_25 rfl rfl ?_
      refine aw_aload_n (n := 27) (i := 0) dX12_turnRound_26 rfl rfl rfl ?_
      refine aw_getI (n := 30) (j := 42) hG.1 fl_RX12_371 (sF_88 hS) rfl dX12_turnRound_27 rfl ?_
      refine aw_iload_n (n := 31) (i := 3) dX12_turnRound_30 rfl rfl rfl ?_
      refine aw_icmp_gt (n := 34) (tgt := 37) dX12_turnRound_31 rfl (by decide) (fun c => ?_) (fun c => ?_)
      · replace h := Ok.ift h c
        refine aw_iconst (n := 38) (v := 1) dX12_turnRound_37 rfl (by decide) ?_
        refine aw_istore_n (n := 39) (i := 1) (al' := [some (.ref 88), some (.int 1), some (.int v2), some (.int y_3), none]) dX12_turnRound_38 rfl rfl rfl (by decide) rfl ?_
        refine aw_iconst (n := 40) (v := 0) dX12_turnRound_39 rfl (by decide) ?_
        refine aw_istore (n := 42) (i := 4) (al' := [some (.ref 88), some (.int 1), some (.int v2), some (.int y_3), some (.int 0)]) dX12_turnRound_40 rfl rfl (by decide) rfl ?_
        exact aw_le' (hJ_42 1 v2 0 D_6 h) ⟨rfl, ⟨rfl, ⟨rfl, ⟨rfl, trivial⟩⟩⟩⟩
      · replace h := Ok.iff h c
        refine aw_goto (tgt := 76) dX12_turnRound_34 (by decide) ?_
        exact aw_le' (hJ_76 v1 v2 D_6 h) ⟨rfl, ⟨rfl, ⟨rfl, trivial⟩⟩⟩
  refine aw_iconst (n := 1) (v := 0) dX12_turnRound_0 rfl (by decide) ?_
  refine aw_istore_n (n := 2) (i := 1) (al' := [some (.ref 88), some (.int 0), none, none, none]) dX12_turnRound_1 rfl rfl rfl (by decide) rfl ?_
  refine aw_iconst (n := 3) (v := 0) dX12_turnRound_2 rfl (by decide) ?_
  refine aw_istore_n (n := 4) (i := 2) (al' := [some (.ref 88), some (.int 0), some (.int 0), none, none]) dX12_turnRound_3 rfl rfl rfl (by decide) rfl ?_
  exact aw_le' (hJ_4 0 0 D h) ⟨rfl, ⟨rfl, ⟨rfl, trivial⟩⟩⟩
theorem dX12_be_0 : decode cX12_be 0 = .ok (.iconst 0, 1) := by decide +kernel
theorem dX12_be_1 : decode cX12_be 1 = .ok (.istore_n 2, 1) := by decide +kernel
theorem dX12_be_2 : decode cX12_be 2 = .ok (.iload_n 2, 1) := by decide +kernel
theorem dX12_be_3 : decode cX12_be 3 = .ok (.aload_n 0, 1) := by decide +kernel
theorem dX12_be_4 : decode cX12_be 4 = .ok (.arraylength, 1) := by decide +kernel
theorem dX12_be_5 : decode cX12_be 5 = .ok (.if_icmp .ge 15, 3) := by decide +kernel
theorem dX12_be_8 : decode cX12_be 8 = .ok (.aload_n 0, 1) := by decide +kernel
theorem dX12_be_9 : decode cX12_be 9 = .ok (.iload_n 2, 1) := by decide +kernel
theorem dX12_be_10 : decode cX12_be 10 = .ok (.aload_n 1, 1) := by decide +kernel
theorem dX12_be_11 : decode cX12_be 11 = .ok (.iload_n 2, 1) := by decide +kernel
theorem dX12_be_12 : decode cX12_be 12 = .ok (.iaload, 1) := by decide +kernel
theorem dX12_be_13 : decode cX12_be 13 = .ok (.iastore, 1) := by decide +kernel
theorem dX12_be_14 : decode cX12_be 14 = .ok (.iinc 2 1, 3) := by decide +kernel
theorem dX12_be_17 : decode cX12_be 17 = .ok (.goto (-15), 3) := by decide +kernel
theorem dX12_be_20 : decode cX12_be 20 = .ok (.return_, 1) := by decide +kernel
def J_X12_be_20 (a0 : Nat) (na0 : Nat) (a1 : Nat) (na1 : Nat) (D : aD) : Option (aD) :=
  some D
def B_X12_be_2 (a0 : Nat) (na0 : Nat) (a1 : Nat) (na1 : Nat) (v2 : Int32) (D : aD) : Option ((Int32 × aD) ⊕ ((aD))) :=
  if Int32.ofNat na0 ≤ v2 then (some (.inr D)) else (aGd (aIn v2 na1) (aGd (aIn v2 na0) (aLet (pI D a0 v2.toNatClampNeg (gI D a1 v2.toNatClampNeg)) (fun D_3 => aLet (v2 + 1) (fun v2_4 => some (.inl (v2_4, D_3)))))))
def J_X12_be_2 (a0 : Nat) (na0 : Nat) (a1 : Nat) (na1 : Nat) (v2 : Int32) (D : aD) : Option (aD) :=
  (aLp (fun s => B_X12_be_2 a0 na0 a1 na1 s.1 s.2) (v2, D)).bind (fun r => J_X12_be_20 a0 na0 a1 na1 r)
def f_X12_be (a0 : Nat) (na0 : Nat) (a1 : Nat) (na1 : Nat) (D : aD) : Option (aD) :=
  J_X12_be_2 a0 na0 a1 na1 0 D
set_option maxRecDepth 100000 in
set_option maxHeartbeats 800000 in
theorem c_X12_be {G : aG} (hG : gOK G) {shp : List aSh} (hS : aShp shp) {fr : Option Nat} {a0 : Nat} {na0 : Nat} {a1 : Nat} {na1 : Nat} {D : aD} {K : aD → Prop} (h : Ok (f_X12_be a0 na0 a1 na1 D) K) (ha0 : shp[a0]? = some (.inl (1, na0, []))) (ha1 : shp[a1]? = some (.inl (1, na1, []))) : AC G (aRm 1 0 0) M_X12_be [.ref a0, .ref a1] fr shp D (aQv shp K) := by
  unfold f_X12_be at h
  refine AC.of (al := [some (.ref a0), some (.ref a1), none]) (r := 1) (by decide) (Nat.le_of_ble_eq_true rfl) rfl ?_
  have hJ_20 : ∀ (D : aD), Ok (J_X12_be_20 a0 na0 a1 na1 D) K → AW G (aRm 1 0 0) M_X12_be fr 0 0 20 [none, none, none] [] shp D (aQv shp K) := by
    intro D h
    unfold J_X12_be_20 at h
    exact aw_vret rfl (by decide) (by decide) dX12_be_20 ⟨rfl, rfl, (Ok.dn h :)⟩
  have hJ_2 : ∀ (v2 : Int32) (D : aD), Ok (J_X12_be_2 a0 na0 a1 na1 v2 D) K → AW G (aRm 1 0 0) M_X12_be fr 0 0 2 [some (.ref a0), some (.ref a1), some (.int v2)] [] shp D (aQv shp K) := by
    intro v2 D h
    unfold J_X12_be_2 at h
    refine Ok.lp (P := fun s => AW G (aRm 1 0 0) M_X12_be fr 0 0 2 [some (.ref a0), some (.ref a1), some (.int (s.1))] [] shp s.2 (aQv shp K)) (fun s Kb2 hL2 hR2 h => ?_) (v2, D) (Ok.bind h)
    obtain ⟨v2, D⟩ := s
    replace h : Ok (B_X12_be_2 a0 na0 a1 na1 v2 D) Kb2 := h
    unfold B_X12_be_2 at h
    refine aw_iload_n (n := 3) (i := 2) dX12_be_2 rfl rfl rfl ?_
    refine aw_aload_n (n := 4) (i := 0) dX12_be_3 rfl rfl rfl ?_
    refine aw_alen (n := 5) (t := 1) (v := Int32.ofNat na0) hG.1 rfl ha0 rfl dX12_be_4 rfl ?_
    refine aw_icmp_ge (n := 8) (tgt := 20) dX12_be_5 rfl (by decide) (fun c => ?_) (fun c => ?_)
    · replace h := Ok.ift h c
      exact aw_le' (hJ_20 D (hR2 D (Ok.dn h :))) trivial
    · replace h := Ok.iff h c
      refine aw_aload_n (n := 9) (i := 0) dX12_be_8 rfl rfl rfl ?_
      refine aw_iload_n (n := 10) (i := 2) dX12_be_9 rfl rfl rfl ?_
      refine aw_aload_n (n := 11) (i := 1) dX12_be_10 rfl rfl rfl ?_
      refine aw_iload_n (n := 12) (i := 2) dX12_be_11 rfl rfl rfl ?_
      obtain ⟨g_1, h⟩ := Ok.gd h
      refine aw_iaload (n := 13) hG.1 ha1 (aIn_in g_1) dX12_be_12 rfl ?_
      obtain ⟨g_2, h⟩ := Ok.gd h
      obtain ⟨D_3, e_D_3, h⟩ := Ok.let_ h
      refine aw_iastore (n := 14) hG.1 ha0 (aIn_in g_2) e_D_3 dX12_be_13 rfl ?_
      obtain ⟨v2_4, e_v2_4, h⟩ := Ok.let_ h
      refine aw_iinc (n := 17) (al' := [some (.ref a0), some (.ref a1), some (.int v2_4)]) dX12_be_14 rfl rfl e_v2_4 (by decide) rfl ?_
      refine aw_goto (tgt := 2) dX12_be_17 (by decide) ?_
      exact aw_le' (hL2 (v2_4, D_3) (Ok.dn h :)) ⟨rfl, ⟨rfl, ⟨rfl, trivial⟩⟩⟩
  refine aw_iconst (n := 1) (v := 0) dX12_be_0 rfl (by decide) ?_
  refine aw_istore_n (n := 2) (i := 2) (al' := [some (.ref a0), some (.ref a1), some (.int 0)]) dX12_be_1 rfl rfl rfl (by decide) rfl ?_
  exact aw_le' (hJ_2 0 D h) ⟨rfl, ⟨rfl, ⟨rfl, trivial⟩⟩⟩
theorem dX12_rest_0 : decode cX12_rest 0 = .ok (.aload_n 0, 1) := by decide +kernel
theorem dX12_rest_1 : decode cX12_rest 1 = .ok (.iconst 0, 1) := by decide +kernel
theorem dX12_rest_2 : decode cX12_rest 2 = .ok (.putfield 157, 3) := by decide +kernel
theorem dX12_rest_5 : decode cX12_rest 5 = .ok (.iconst 0, 1) := by decide +kernel
theorem dX12_rest_6 : decode cX12_rest 6 = .ok (.istore_n 1, 1) := by decide +kernel
theorem dX12_rest_7 : decode cX12_rest 7 = .ok (.iload_n 1, 1) := by decide +kernel
theorem dX12_rest_8 : decode cX12_rest 8 = .ok (.aload_n 0, 1) := by decide +kernel
theorem dX12_rest_9 : decode cX12_rest 9 = .ok (.getfield 27, 3) := by decide +kernel
theorem dX12_rest_12 : decode cX12_rest 12 = .ok (.iconst 3, 1) := by decide +kernel
theorem dX12_rest_13 : decode cX12_rest 13 = .ok (.iaload, 1) := by decide +kernel
theorem dX12_rest_14 : decode cX12_rest 14 = .ok (.if_icmp .ge 26, 3) := by decide +kernel
theorem dX12_rest_17 : decode cX12_rest 17 = .ok (.aload_n 0, 1) := by decide +kernel
theorem dX12_rest_18 : decode cX12_rest 18 = .ok (.iload_n 1, 1) := by decide +kernel
theorem dX12_rest_19 : decode cX12_rest 19 = .ok (.invokevirtual 377, 3) := by decide +kernel
theorem dX12_rest_22 : decode cX12_rest 22 = .ok (.aload_n 0, 1) := by decide +kernel
theorem dX12_rest_23 : decode cX12_rest 23 = .ok (.getfield 368, 3) := by decide +kernel
theorem dX12_rest_26 : decode cX12_rest 26 = .ok (.bipush 6, 2) := by decide +kernel
theorem dX12_rest_28 : decode cX12_rest 28 = .ok (.if_icmp .le 6, 3) := by decide +kernel
theorem dX12_rest_31 : decode cX12_rest 31 = .ok (.bipush (-2), 2) := by decide +kernel
theorem dX12_rest_33 : decode cX12_rest 33 = .ok (.ireturn, 1) := by decide +kernel
theorem dX12_rest_34 : decode cX12_rest 34 = .ok (.iinc 1 1, 3) := by decide +kernel
theorem dX12_rest_37 : decode cX12_rest 37 = .ok (.goto (-30), 3) := by decide +kernel
theorem dX12_rest_40 : decode cX12_rest 40 = .ok (.aload_n 0, 1) := by decide +kernel
theorem dX12_rest_41 : decode cX12_rest 41 = .ok (.getfield 106, 3) := by decide +kernel
theorem dX12_rest_44 : decode cX12_rest 44 = .ok (.aload_n 0, 1) := by decide +kernel
theorem dX12_rest_45 : decode cX12_rest 45 = .ok (.getfield 76, 3) := by decide +kernel
theorem dX12_rest_48 : decode cX12_rest 48 = .ok (.invokestatic 383, 3) := by decide +kernel
theorem dX12_rest_51 : decode cX12_rest 51 = .ok (.iconst 0, 1) := by decide +kernel
theorem dX12_rest_52 : decode cX12_rest 52 = .ok (.istore_n 1, 1) := by decide +kernel
theorem dX12_rest_53 : decode cX12_rest 53 = .ok (.iload_n 1, 1) := by decide +kernel
theorem dX12_rest_54 : decode cX12_rest 54 = .ok (.bipush 21, 2) := by decide +kernel
theorem dX12_rest_56 : decode cX12_rest 56 = .ok (.if_icmp .ge 16, 3) := by decide +kernel
theorem dX12_rest_59 : decode cX12_rest 59 = .ok (.aload_n 0, 1) := by decide +kernel
theorem dX12_rest_60 : decode cX12_rest 60 = .ok (.invokevirtual 387, 3) := by decide +kernel
theorem dX12_rest_63 : decode cX12_rest 63 = .ok (.ifCond .eq 9, 3) := by decide +kernel
theorem dX12_rest_66 : decode cX12_rest 66 = .ok (.iinc 1 1, 3) := by decide +kernel
theorem dX12_rest_69 : decode cX12_rest 69 = .ok (.goto (-16), 3) := by decide +kernel
theorem dX12_rest_72 : decode cX12_rest 72 = .ok (.aload_n 0, 1) := by decide +kernel
theorem dX12_rest_73 : decode cX12_rest 73 = .ok (.getfield 76, 3) := by decide +kernel
theorem dX12_rest_76 : decode cX12_rest 76 = .ok (.aload_n 0, 1) := by decide +kernel
theorem dX12_rest_77 : decode cX12_rest 77 = .ok (.getfield 106, 3) := by decide +kernel
theorem dX12_rest_80 : decode cX12_rest 80 = .ok (.invokestatic 383, 3) := by decide +kernel
theorem dX12_rest_83 : decode cX12_rest 83 = .ok (.iload_n 1, 1) := by decide +kernel
theorem dX12_rest_84 : decode cX12_rest 84 = .ok (.bipush 21, 2) := by decide +kernel
theorem dX12_rest_86 : decode cX12_rest 86 = .ok (.if_icmp .ne 7, 3) := by decide +kernel
theorem dX12_rest_89 : decode cX12_rest 89 = .ok (.iconst (-1), 1) := by decide +kernel
theorem dX12_rest_90 : decode cX12_rest 90 = .ok (.goto 4, 3) := by decide +kernel
theorem dX12_rest_93 : decode cX12_rest 93 = .ok (.iload_n 1, 1) := by decide +kernel
theorem dX12_rest_94 : decode cX12_rest 94 = .ok (.ireturn, 1) := by decide +kernel
def J_X12_rest_31 (D : aD) : Option (Int32 × aD) :=
  some ((-2), D)
def J_X12_rest_72 (v1 : Int32) (D : aD) : Option (Int32 × aD) :=
  (f_X12_be 106 13 115 13 D).bind (fun D_3 => if v1 ≠ 21 then (some (v1, D_3)) else (some ((-1), D_3)))
def B_X12_rest_53 (v1 : Int32) (D : aD) : Option ((Int32 × aD) ⊕ ((Int32 × aD))) :=
  if 21 ≤ v1 then (some (.inr (v1, D))) else (aBi (f_X12_turnRound D) (fun y_4 D_5 => if y_4 = 0 then (some (.inr (v1, D_5))) else (aLet (v1 + 1) (fun v1_6 => some (.inl (v1_6, D_5))))))
def J_X12_rest_53 (v1 : Int32) (D : aD) : Option (Int32 × aD) :=
  (aLp (fun s => B_X12_rest_53 s.1 s.2) (v1, D)).bind (fun r => J_X12_rest_72 (r.1) r.2)
def J_X12_rest_40 (D : aD) : Option (Int32 × aD) :=
  (f_X12_be 115 13 106 13 D).bind (fun D_2 => J_X12_rest_53 0 D_2)
def B_X12_rest_7 (v1 : Int32) (D : aD) : Option ((Int32 × aD) ⊕ ((aD) ⊕ (aD))) :=
  aGd (aIn 3 32) (if gI D 91 (3 : Int32).toNatClampNeg ≤ v1 then (some (.inr (.inr (D)))) else ((f_X12_tellMine v1 D).bind (fun D_8 => if gI D_8 88 41 ≤ 6 then (aLet (v1 + 1) (fun v1_9 => some (.inl (v1_9, D_8)))) else (some (.inr (.inl (D_8)))))))
def J_X12_rest_7 (v1 : Int32) (D : aD) : Option (Int32 × aD) :=
  (aLp (fun s => B_X12_rest_7 s.1 s.2) (v1, D)).bind (Sum.elim (fun r => J_X12_rest_31 r) ((fun r => J_X12_rest_40 r)))
def f_X12_rest (D : aD) : Option (Int32 × aD) :=
  aLet (pI D 88 2 0) (fun D_1 => J_X12_rest_7 0 D_1)
set_option maxRecDepth 100000 in
set_option maxHeartbeats 800000 in
theorem c_X12_rest {G : aG} (hG : gOK G) {shp : List aSh} (hS : aShp shp) {fr : Option Nat} {D : aD} {K : Int32 → aD → Prop} (h : Ok2 (f_X12_rest D) K) : AC G (aRm 17 0 0) M_X12_rest [.ref 88] fr shp D (aQi shp K) := by
  replace h := Ok2.ok h
  unfold f_X12_rest at h
  refine AC.of (al := [some (.ref 88), none]) (r := 1) (by decide) (Nat.le_of_ble_eq_true rfl) rfl ?_
  have hJ_31 : ∀ (D : aD), Ok (J_X12_rest_31 D) (fun r => K r.1 r.2) → AW G (aRm 17 0 0) M_X12_rest fr 0 0 31 [none, none] [] shp D (aQi shp K) := by
    intro D h
    unfold J_X12_rest_31 at h
    refine aw_bipush (n := 33) (v := (-2)) dX12_rest_31 rfl (by decide) ?_
    exact aw_iret rfl (by decide) (by decide) dX12_rest_33 ⟨_, rfl, rfl, (Ok.dn h :)⟩
  have hJ_72 : ∀ (v1 : Int32) (D : aD), Ok (J_X12_rest_72 v1 D) (fun r => K r.1 r.2) → AW G (aRm 17 0 0) M_X12_rest fr 0 0 72 [some (.ref 88), some (.int v1)] [] shp D (aQi shp K) := by
    intro v1 D h
    unfold J_X12_rest_72 at h
    refine aw_aload_n (n := 73) (i := 0) dX12_rest_72 rfl rfl rfl ?_
    refine aw_getR (n := 76) (j := 28) (r := 106) hG.1 fl_RX12_76 (sF_88 hS) rfl dX12_rest_73 rfl ?_
    refine aw_aload_n (n := 77) (i := 0) dX12_rest_76 rfl rfl rfl ?_
    refine aw_getR (n := 80) (j := 43) (r := 115) hG.1 fl_RX12_106 (sF_88 hS) rfl dX12_rest_77 rfl ?_
    refine aw_cSv (M := M_X12_rest) (n := 83) (As := [.ref 106, .ref 115]) (rest := []) lk_RX12_383 rfl rfl (c_X12_be hG hS (h := Ok.bind h) (sF_106 hS) (sF_115 hS)) (by decide) (Nat.le_of_ble_eq_true rfl) (by decide) (by decide) dX12_rest_80 rfl (fun D_3 h => ?_)
    refine aw_iload_n (n := 84) (i := 1) dX12_rest_83 rfl rfl rfl ?_
    refine aw_bipush (n := 86) (v := 21) dX12_rest_84 rfl (by decide) ?_
    refine aw_icmp_ne (n := 89) (tgt := 93) dX12_rest_86 rfl (by decide) (fun c => ?_) (fun c => ?_)
    · replace h := Ok.ift h c
      refine aw_iload_n (n := 94) (i := 1) dX12_rest_93 rfl rfl rfl ?_
      exact aw_iret rfl (by decide) (by decide) dX12_rest_94 ⟨_, rfl, rfl, (Ok.dn h :)⟩
    · replace h := Ok.iffn h c
      refine aw_iconst (n := 90) (v := (-1)) dX12_rest_89 rfl (by decide) ?_
      refine aw_goto (tgt := 94) dX12_rest_90 (by decide) ?_
      exact aw_iret rfl (by decide) (by decide) dX12_rest_94 ⟨_, rfl, rfl, (Ok.dn h :)⟩
  have hJ_53 : ∀ (v1 : Int32) (D : aD), Ok (J_X12_rest_53 v1 D) (fun r => K r.1 r.2) → AW G (aRm 17 0 0) M_X12_rest fr 0 0 53 [some (.ref 88), some (.int v1)] [] shp D (aQi shp K) := by
    intro v1 D h
    unfold J_X12_rest_53 at h
    refine Ok.lp (P := fun s => AW G (aRm 17 0 0) M_X12_rest fr 0 0 53 [some (.ref 88), some (.int (s.1))] [] shp s.2 (aQi shp K)) (fun s Kb53 hL53 hR53 h => ?_) (v1, D) (Ok.bind h)
    obtain ⟨v1, D⟩ := s
    replace h : Ok (B_X12_rest_53 v1 D) Kb53 := h
    unfold B_X12_rest_53 at h
    refine aw_iload_n (n := 54) (i := 1) dX12_rest_53 rfl rfl rfl ?_
    refine aw_bipush (n := 56) (v := 21) dX12_rest_54 rfl (by decide) ?_
    refine aw_icmp_ge (n := 59) (tgt := 72) dX12_rest_56 rfl (by decide) (fun c => ?_) (fun c => ?_)
    · replace h := Ok.ift h c
      exact aw_le' (hJ_72 v1 D (hR53 (v1, D) (Ok.dn h :))) ⟨rfl, ⟨rfl, trivial⟩⟩
    · replace h := Ok.iff h c
      refine aw_aload_n (n := 60) (i := 0) dX12_rest_59 rfl rfl rfl ?_
      refine aw_cVi (M := M_X12_rest) (n := 63) (As := []) (rest := []) hG.1 lk_RX12_387 rfl rfl (sF_88 hS) (c_X12_turnRound hG hS (h := Ok.bi h)) (by decide) (Nat.le_of_ble_eq_true rfl) (by decide) (by decide) dX12_rest_60 rfl (fun y_4 D_5 h => ?_)
      refine aw_if_eq (n := 66) (tgt := 72) dX12_rest_63 rfl (by decide) (fun c => ?_) (fun c => ?_)
      · replace h := Ok.ift h c
        exact aw_le' (hJ_72 v1 D_5 (hR53 (v1, D_5) (Ok.dn h :))) ⟨rfl, ⟨rfl, trivial⟩⟩
      · replace h := Ok.iff h c
        obtain ⟨v1_6, e_v1_6, h⟩ := Ok.let_ h
        refine aw_iinc (n := 69) (al' := [some (.ref 88), some (.int v1_6)]) dX12_rest_66 rfl rfl e_v1_6 (by decide) rfl ?_
        refine aw_goto (tgt := 53) dX12_rest_69 (by decide) ?_
        exact aw_le' (hL53 (v1_6, D_5) (Ok.dn h :)) ⟨rfl, ⟨rfl, trivial⟩⟩
  have hJ_40 : ∀ (D : aD), Ok (J_X12_rest_40 D) (fun r => K r.1 r.2) → AW G (aRm 17 0 0) M_X12_rest fr 0 0 40 [some (.ref 88), none] [] shp D (aQi shp K) := by
    intro D h
    unfold J_X12_rest_40 at h
    refine aw_aload_n (n := 41) (i := 0) dX12_rest_40 rfl rfl rfl ?_
    refine aw_getR (n := 44) (j := 43) (r := 115) hG.1 fl_RX12_106 (sF_88 hS) rfl dX12_rest_41 rfl ?_
    refine aw_aload_n (n := 45) (i := 0) dX12_rest_44 rfl rfl rfl ?_
    refine aw_getR (n := 48) (j := 28) (r := 106) hG.1 fl_RX12_76 (sF_88 hS) rfl dX12_rest_45 rfl ?_
    refine aw_cSv (M := M_X12_rest) (n := 51) (As := [.ref 115, .ref 106]) (rest := []) lk_RX12_383 rfl rfl (c_X12_be hG hS (h := Ok.bind h) (sF_115 hS) (sF_106 hS)) (by decide) (Nat.le_of_ble_eq_true rfl) (by decide) (by decide) dX12_rest_48 rfl (fun D_2 h => ?_)
    refine aw_iconst (n := 52) (v := 0) dX12_rest_51 rfl (by decide) ?_
    refine aw_istore_n (n := 53) (i := 1) (al' := [some (.ref 88), some (.int 0)]) dX12_rest_52 rfl rfl rfl (by decide) rfl ?_
    exact aw_le' (hJ_53 0 D_2 h) ⟨rfl, ⟨rfl, trivial⟩⟩
  have hJ_7 : ∀ (v1 : Int32) (D : aD), Ok (J_X12_rest_7 v1 D) (fun r => K r.1 r.2) → AW G (aRm 17 0 0) M_X12_rest fr 0 0 7 [some (.ref 88), some (.int v1)] [] shp D (aQi shp K) := by
    intro v1 D h
    unfold J_X12_rest_7 at h
    refine Ok.lp (P := fun s => AW G (aRm 17 0 0) M_X12_rest fr 0 0 7 [some (.ref 88), some (.int (s.1))] [] shp s.2 (aQi shp K)) (fun s Kb7 hL7 hR7 h => ?_) (v1, D) (Ok.bind h)
    obtain ⟨v1, D⟩ := s
    replace h : Ok (B_X12_rest_7 v1 D) Kb7 := h
    unfold B_X12_rest_7 at h
    refine aw_iload_n (n := 8) (i := 1) dX12_rest_7 rfl rfl rfl ?_
    refine aw_aload_n (n := 9) (i := 0) dX12_rest_8 rfl rfl rfl ?_
    refine aw_getR (n := 12) (j := 3) (r := 91) hG.1 fl_RX12_27 (sF_88 hS) rfl dX12_rest_9 rfl ?_
    refine aw_iconst (n := 13) (v := 3) dX12_rest_12 rfl (by decide) ?_
    obtain ⟨g_7, h⟩ := Ok.gd h
    refine aw_iaload (n := 14) hG.1 (sF_91 hS) (aIn_in g_7) dX12_rest_13 rfl ?_
    refine aw_icmp_ge (n := 17) (tgt := 40) dX12_rest_14 rfl (by decide) (fun c => ?_) (fun c => ?_)
    · replace h := Ok.ift h c
      exact aw_le' (hJ_40 D (Ok.er (hR7 (.inr (D)) (Ok.dn h :)) :)) ⟨rfl, trivial⟩
    · replace h := Ok.iff h c
      refine aw_aload_n (n := 18) (i := 0) dX12_rest_17 rfl rfl rfl ?_
      refine aw_iload_n (n := 19) (i := 1) dX12_rest_18 rfl rfl rfl ?_
      refine aw_cVv (M := M_X12_rest) (n := 22) (As := [.int v1]) (rest := []) hG.1 lk_RX12_377 rfl rfl (sF_88 hS) (c_X12_tellMine hG hS (h := Ok.bind h)) (by decide) (Nat.le_of_ble_eq_true rfl) (by decide) (by decide) dX12_rest_19 rfl (fun D_8 h => ?_)
      refine aw_aload_n (n := 23) (i := 0) dX12_rest_22 rfl rfl rfl ?_
      refine aw_getI (n := 26) (j := 41) hG.1 fl_RX12_368 (sF_88 hS) rfl dX12_rest_23 rfl ?_
      refine aw_bipush (n := 28) (v := 6) dX12_rest_26 rfl (by decide) ?_
      refine aw_icmp_le (n := 31) (tgt := 34) dX12_rest_28 rfl (by decide) (fun c => ?_) (fun c => ?_)
      · replace h := Ok.ift h c
        obtain ⟨v1_9, e_v1_9, h⟩ := Ok.let_ h
        refine aw_iinc (n := 37) (al' := [some (.ref 88), some (.int v1_9)]) dX12_rest_34 rfl rfl e_v1_9 (by decide) rfl ?_
        refine aw_goto (tgt := 7) dX12_rest_37 (by decide) ?_
        exact aw_le' (hL7 (v1_9, D_8) (Ok.dn h :)) ⟨rfl, ⟨rfl, trivial⟩⟩
      · replace h := Ok.iff h c
        exact aw_le' (hJ_31 D_8 (Ok.el (hR7 (.inl (D_8)) (Ok.dn h :)) :)) trivial
  refine aw_aload_n (n := 1) (i := 0) dX12_rest_0 rfl rfl rfl ?_
  refine aw_iconst (n := 2) (v := 0) dX12_rest_1 rfl (by decide) ?_
  obtain ⟨D_1, e_D_1, h⟩ := Ok.let_ h
  refine aw_putI (n := 5) (j := 2) hG.1 fl_RX12_157 (sF_88 hS) rfl e_D_1 dX12_rest_2 rfl ?_
  refine aw_iconst (n := 6) (v := 0) dX12_rest_5 rfl (by decide) ?_
  refine aw_istore_n (n := 7) (i := 1) (al' := [some (.ref 88), some (.int 0)]) dX12_rest_6 rfl rfl rfl (by decide) rfl ?_
  exact aw_le' (hJ_7 0 D_1 h) ⟨rfl, ⟨rfl, trivial⟩⟩
theorem dX12_growAs_0 : decode cX12_growAs 0 = .ok (.aload_n 0, 1) := by decide +kernel
theorem dX12_growAs_1 : decode cX12_growAs 1 = .ok (.getfield 51, 3) := by decide +kernel
theorem dX12_growAs_4 : decode cX12_growAs 4 = .ok (.aload_n 0, 1) := by decide +kernel
theorem dX12_growAs_5 : decode cX12_growAs 5 = .ok (.getfield 303, 3) := by decide +kernel
theorem dX12_growAs_8 : decode cX12_growAs 8 = .ok (.iload_n 1, 1) := by decide +kernel
theorem dX12_growAs_9 : decode cX12_growAs 9 = .ok (.iastore, 1) := by decide +kernel
theorem dX12_growAs_10 : decode cX12_growAs 10 = .ok (.aload_n 0, 1) := by decide +kernel
theorem dX12_growAs_11 : decode cX12_growAs 11 = .ok (.getfield 54, 3) := by decide +kernel
theorem dX12_growAs_14 : decode cX12_growAs 14 = .ok (.aload_n 0, 1) := by decide +kernel
theorem dX12_growAs_15 : decode cX12_growAs 15 = .ok (.getfield 303, 3) := by decide +kernel
theorem dX12_growAs_18 : decode cX12_growAs 18 = .ok (.iload_n 2, 1) := by decide +kernel
theorem dX12_growAs_19 : decode cX12_growAs 19 = .ok (.iastore, 1) := by decide +kernel
theorem dX12_growAs_20 : decode cX12_growAs 20 = .ok (.aload_n 0, 1) := by decide +kernel
theorem dX12_growAs_21 : decode cX12_growAs 21 = .ok (.getfield 57, 3) := by decide +kernel
theorem dX12_growAs_24 : decode cX12_growAs 24 = .ok (.aload_n 0, 1) := by decide +kernel
theorem dX12_growAs_25 : decode cX12_growAs 25 = .ok (.getfield 303, 3) := by decide +kernel
theorem dX12_growAs_28 : decode cX12_growAs 28 = .ok (.iload_n 3, 1) := by decide +kernel
theorem dX12_growAs_29 : decode cX12_growAs 29 = .ok (.iastore, 1) := by decide +kernel
theorem dX12_growAs_30 : decode cX12_growAs 30 = .ok (.aload_n 0, 1) := by decide +kernel
theorem dX12_growAs_31 : decode cX12_growAs 31 = .ok (.getfield 76, 3) := by decide +kernel
theorem dX12_growAs_34 : decode cX12_growAs 34 = .ok (.aload_n 0, 1) := by decide +kernel
theorem dX12_growAs_35 : decode cX12_growAs 35 = .ok (.getfield 303, 3) := by decide +kernel
theorem dX12_growAs_38 : decode cX12_growAs 38 = .ok (.iconst 0, 1) := by decide +kernel
theorem dX12_growAs_39 : decode cX12_growAs 39 = .ok (.iastore, 1) := by decide +kernel
theorem dX12_growAs_40 : decode cX12_growAs 40 = .ok (.aload_n 0, 1) := by decide +kernel
theorem dX12_growAs_41 : decode cX12_growAs 41 = .ok (.dup, 1) := by decide +kernel
theorem dX12_growAs_42 : decode cX12_growAs 42 = .ok (.getfield 303, 3) := by decide +kernel
theorem dX12_growAs_45 : decode cX12_growAs 45 = .ok (.iconst 1, 1) := by decide +kernel
theorem dX12_growAs_46 : decode cX12_growAs 46 = .ok (.iadd, 1) := by decide +kernel
theorem dX12_growAs_47 : decode cX12_growAs 47 = .ok (.putfield 303, 3) := by decide +kernel
theorem dX12_growAs_50 : decode cX12_growAs 50 = .ok (.return_, 1) := by decide +kernel
def f_X12_growAs (v1 : Int32) (v2 : Int32) (v3 : Int32) (D : aD) : Option (aD) :=
  aGd (aIn (gI D 88 30) 26) (aLet (pI D 99 (gI D 88 30).toNatClampNeg v1) (fun D_2 => aGd (aIn (gI D_2 88 30) 26) (aLet (pI D_2 100 (gI D_2 88 30).toNatClampNeg v2) (fun D_4 => aGd (aIn (gI D_4 88 30) 26) (aLet (pI D_4 101 (gI D_4 88 30).toNatClampNeg v3) (fun D_6 => aGd (aIn (gI D_6 88 30) 13) (aLet (pI D_6 106 (gI D_6 88 30).toNatClampNeg 0) (fun D_8 => aLet (pI D_8 88 30 ((gI D_8 88 30) + 1)) (fun D_9 => some D_9)))))))))
set_option maxRecDepth 100000 in
set_option maxHeartbeats 800000 in
theorem c_X12_growAs {G : aG} (hG : gOK G) {shp : List aSh} (hS : aShp shp) {fr : Option Nat} {v1 : Int32} {v2 : Int32} {v3 : Int32} {D : aD} {K : aD → Prop} (h : Ok (f_X12_growAs v1 v2 v3 D) K) : AC G (aRm 1 0 0) M_X12_growAs [.ref 88, .int v1, .int v2, .int v3] fr shp D (aQv shp K) := by
  unfold f_X12_growAs at h
  refine AC.of (al := [some (.ref 88), some (.int v1), some (.int v2), some (.int v3)]) (r := 0) (by decide) (Nat.le_of_ble_eq_true rfl) rfl ?_
  refine aw_aload_n (n := 1) (i := 0) dX12_growAs_0 rfl rfl rfl ?_
  refine aw_getR (n := 4) (j := 11) (r := 99) hG.1 fl_RX12_51 (sF_88 hS) rfl dX12_growAs_1 rfl ?_
  refine aw_aload_n (n := 5) (i := 0) dX12_growAs_4 rfl rfl rfl ?_
  refine aw_getI (n := 8) (j := 30) hG.1 fl_RX12_303 (sF_88 hS) rfl dX12_growAs_5 rfl ?_
  refine aw_iload_n (n := 9) (i := 1) dX12_growAs_8 rfl rfl rfl ?_
  obtain ⟨g_1, h⟩ := Ok.gd h
  obtain ⟨D_2, e_D_2, h⟩ := Ok.let_ h
  refine aw_iastore (n := 10) hG.1 (sF_99 hS) (aIn_in g_1) e_D_2 dX12_growAs_9 rfl ?_
  refine aw_aload_n (n := 11) (i := 0) dX12_growAs_10 rfl rfl rfl ?_
  refine aw_getR (n := 14) (j := 12) (r := 100) hG.1 fl_RX12_54 (sF_88 hS) rfl dX12_growAs_11 rfl ?_
  refine aw_aload_n (n := 15) (i := 0) dX12_growAs_14 rfl rfl rfl ?_
  refine aw_getI (n := 18) (j := 30) hG.1 fl_RX12_303 (sF_88 hS) rfl dX12_growAs_15 rfl ?_
  refine aw_iload_n (n := 19) (i := 2) dX12_growAs_18 rfl rfl rfl ?_
  obtain ⟨g_3, h⟩ := Ok.gd h
  obtain ⟨D_4, e_D_4, h⟩ := Ok.let_ h
  refine aw_iastore (n := 20) hG.1 (sF_100 hS) (aIn_in g_3) e_D_4 dX12_growAs_19 rfl ?_
  refine aw_aload_n (n := 21) (i := 0) dX12_growAs_20 rfl rfl rfl ?_
  refine aw_getR (n := 24) (j := 13) (r := 101) hG.1 fl_RX12_57 (sF_88 hS) rfl dX12_growAs_21 rfl ?_
  refine aw_aload_n (n := 25) (i := 0) dX12_growAs_24 rfl rfl rfl ?_
  refine aw_getI (n := 28) (j := 30) hG.1 fl_RX12_303 (sF_88 hS) rfl dX12_growAs_25 rfl ?_
  refine aw_iload_n (n := 29) (i := 3) dX12_growAs_28 rfl rfl rfl ?_
  obtain ⟨g_5, h⟩ := Ok.gd h
  obtain ⟨D_6, e_D_6, h⟩ := Ok.let_ h
  refine aw_iastore (n := 30) hG.1 (sF_101 hS) (aIn_in g_5) e_D_6 dX12_growAs_29 rfl ?_
  refine aw_aload_n (n := 31) (i := 0) dX12_growAs_30 rfl rfl rfl ?_
  refine aw_getR (n := 34) (j := 28) (r := 106) hG.1 fl_RX12_76 (sF_88 hS) rfl dX12_growAs_31 rfl ?_
  refine aw_aload_n (n := 35) (i := 0) dX12_growAs_34 rfl rfl rfl ?_
  refine aw_getI (n := 38) (j := 30) hG.1 fl_RX12_303 (sF_88 hS) rfl dX12_growAs_35 rfl ?_
  refine aw_iconst (n := 39) (v := 0) dX12_growAs_38 rfl (by decide) ?_
  obtain ⟨g_7, h⟩ := Ok.gd h
  obtain ⟨D_8, e_D_8, h⟩ := Ok.let_ h
  refine aw_iastore (n := 40) hG.1 (sF_106 hS) (aIn_in g_7) e_D_8 dX12_growAs_39 rfl ?_
  refine aw_aload_n (n := 41) (i := 0) dX12_growAs_40 rfl rfl rfl ?_
  refine aw_dup (n := 42) dX12_growAs_41 rfl rfl ?_
  refine aw_getI (n := 45) (j := 30) hG.1 fl_RX12_303 (sF_88 hS) rfl dX12_growAs_42 rfl ?_
  refine aw_iconst (n := 46) (v := 1) dX12_growAs_45 rfl (by decide) ?_
  refine aw_iadd (n := 47) dX12_growAs_46 rfl ?_
  obtain ⟨D_9, e_D_9, h⟩ := Ok.let_ h
  refine aw_putI (n := 50) (j := 30) hG.1 fl_RX12_303 (sF_88 hS) rfl e_D_9 dX12_growAs_47 rfl ?_
  exact aw_vret rfl (by decide) (by decide) dX12_growAs_50 ⟨rfl, rfl, (Ok.dn h :)⟩
