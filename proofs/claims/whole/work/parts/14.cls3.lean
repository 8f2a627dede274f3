theorem dk_Is_canSuffer_0 : decode mi_Is_canSuffer.2.1 0 = .ok (.iload_n 2, 1) := by decide +kernel
theorem dk_Is_canSuffer_1 : decode mi_Is_canSuffer.2.1 1 = .ok (.ifCond .lt 25, 3) := by decide +kernel
theorem dk_Is_canSuffer_4 : decode mi_Is_canSuffer.2.1 4 = .ok (.iload_n 2, 1) := by decide +kernel
theorem dk_Is_canSuffer_5 : decode mi_Is_canSuffer.2.1 5 = .ok (.iconst 3, 1) := by decide +kernel
theorem dk_Is_canSuffer_6 : decode mi_Is_canSuffer.2.1 6 = .ok (.if_icmp .ge 20, 3) := by decide +kernel
theorem dk_Is_canSuffer_9 : decode mi_Is_canSuffer.2.1 9 = .ok (.aload_n 0, 1) := by decide +kernel
theorem dk_Is_canSuffer_10 : decode mi_Is_canSuffer.2.1 10 = .ok (.iload_n 1, 1) := by decide +kernel
theorem dk_Is_canSuffer_11 : decode mi_Is_canSuffer.2.1 11 = .ok (.getstatic 116, 3) := by decide +kernel
theorem dk_Is_canSuffer_14 : decode mi_Is_canSuffer.2.1 14 = .ok (.iload_n 2, 1) := by decide +kernel
theorem dk_Is_canSuffer_15 : decode mi_Is_canSuffer.2.1 15 = .ok (.iaload, 1) := by decide +kernel
theorem dk_Is_canSuffer_16 : decode mi_Is_canSuffer.2.1 16 = .ok (.invokevirtual 77, 3) := by decide +kernel
theorem dk_Is_canSuffer_19 : decode mi_Is_canSuffer.2.1 19 = .ok (.ifCond .eq 7, 3) := by decide +kernel
theorem dk_Is_canSuffer_22 : decode mi_Is_canSuffer.2.1 22 = .ok (.iconst 1, 1) := by decide +kernel
theorem dk_Is_canSuffer_23 : decode mi_Is_canSuffer.2.1 23 = .ok (.goto 4, 3) := by decide +kernel
theorem dk_Is_canSuffer_26 : decode mi_Is_canSuffer.2.1 26 = .ok (.iconst 0, 1) := by decide +kernel
theorem dk_Is_canSuffer_27 : decode mi_Is_canSuffer.2.1 27 = .ok (.ireturn, 1) := by decide +kernel
def Is_canSuffer (o : Nat) (p1 : Int32) (p2 : Int32) (σ : nm_St) : Option (Int32 × nm_St) :=
  (if p2 < 0 then
    some ((0 : Int32), σ)
  else
    (if (3 : Int32) ≤ p2 then
      some ((0 : Int32), σ)
    else
      (nm_g (nm_in p2 (nm_tabN 1)) (
      ((Is_isAt o p1 ((nm_tab 1).getD p2.toNatClampNeg 0) σ).bind fun q4 =>
      (if q4.1 = 0 then
        some ((0 : Int32), q4.2)
      else
        some ((1 : Int32), q4.2)))))))
set_option maxRecDepth 100000 in
set_option maxHeartbeats 4000000 in
theorem ct_Is_canSuffer (X : nm_X) (o : Nat) (ho : nm_isl o = true) (p1 : Int32) (p2 : Int32) (σ : nm_St) : Ct X mi_Is_canSuffer 1 nm_wI [.ref o, .int p1, .int p2] σ (Is_canSuffer o p1 p2 σ) := by
  refine Ct.of (by decide +kernel) rfl (fun F hF0 => ?_)
  unfold Is_canSuffer
  refine rn_iload_n (pc := 0) 2 dk_Is_canSuffer_0 rfl rfl ?_
  refine rn_if_lt (pc := 1) 26 dk_Is_canSuffer_1 (by decide) (fun c1 => ?_) (fun c1 => ?_)
  · refine rn_iconst (pc := 26) (0 : Int32) dk_Is_canSuffer_26 cn_i_0 ?_
    exact rn_zret (ty := .boolean) rfl rfl dk_Is_canSuffer_27
  · refine rn_iload_n (pc := 4) 2 dk_Is_canSuffer_4 rfl rfl ?_
    refine rn_iconst (pc := 5) (3 : Int32) dk_Is_canSuffer_5 cn_i_3 ?_
    refine rn_icmp_ge (pc := 6) 26 dk_Is_canSuffer_6 (by decide) (fun c2 => ?_) (fun c2 => ?_)
    · refine rn_iconst (pc := 26) (0 : Int32) dk_Is_canSuffer_26 cn_i_0 ?_
      exact rn_zret (ty := .boolean) rfl rfl dk_Is_canSuffer_27
    · refine rn_aload_n (pc := 9) 0 dk_Is_canSuffer_9 rfl rfl (nm_rok_isl ho) ?_
      refine rn_iload_n (pc := 10) 1 dk_Is_canSuffer_10 rfl rfl ?_
      refine rn_getTN (pc := 11) 1 (by decide) wd_832 dk_Is_canSuffer_11 ?_
      refine rn_iload_n (pc := 14) 2 dk_Is_canSuffer_14 rfl rfl ?_
      refine rn_ialoadT (pc := 15) 1 (by decide) dk_Is_canSuffer_15 (fun g3 => ?_)
      refine cl_Is_77 (pc := 16) (As := [.int p1, .int ((nm_tab 1).getD p2.toNatClampNeg 0)]) (st := []) o ho rfl (ct_Is_isAt X o ho p1 ((nm_tab 1).getD p2.toNatClampNeg 0) σ) (Nat.le_trans (Nat.le_of_ble_eq_true rfl) hF0) rfl rfl (Nat.le_of_ble_eq_true rfl) dk_Is_canSuffer_16 (fun q4 => ?_)
      refine rn_if_eq (pc := 19) 26 dk_Is_canSuffer_19 (by decide) (fun c5 => ?_) (fun c5 => ?_)
      · refine rn_iconst (pc := 26) (0 : Int32) dk_Is_canSuffer_26 cn_i_0 ?_
        exact rn_zret (ty := .boolean) rfl rfl dk_Is_canSuffer_27
      · refine rn_iconst (pc := 22) (1 : Int32) dk_Is_canSuffer_22 cn_i_1 ?_
        refine rn_goto (pc := 23) 27 dk_Is_canSuffer_23 (by decide) ?_
        exact rn_zret (ty := .boolean) rfl rfl dk_Is_canSuffer_27
theorem dk_Co_canMove_0 : decode mi_Co_canMove.2.1 0 = .ok (.iload_n 1, 1) := by decide +kernel
theorem dk_Co_canMove_1 : decode mi_Co_canMove.2.1 1 = .ok (.ifCond .eq 26, 3) := by decide +kernel
theorem dk_Co_canMove_4 : decode mi_Co_canMove.2.1 4 = .ok (.iload_n 1, 1) := by decide +kernel
theorem dk_Co_canMove_5 : decode mi_Co_canMove.2.1 5 = .ok (.bipush 10, 2) := by decide +kernel
theorem dk_Co_canMove_7 : decode mi_Co_canMove.2.1 7 = .ok (.if_icmp .lt 24, 3) := by decide +kernel
theorem dk_Co_canMove_10 : decode mi_Co_canMove.2.1 10 = .ok (.aload_n 0, 1) := by decide +kernel
theorem dk_Co_canMove_11 : decode mi_Co_canMove.2.1 11 = .ok (.iload_n 1, 1) := by decide +kernel
theorem dk_Co_canMove_12 : decode mi_Co_canMove.2.1 12 = .ok (.bipush 10, 2) := by decide +kernel
theorem dk_Co_canMove_14 : decode mi_Co_canMove.2.1 14 = .ok (.irem, 1) := by decide +kernel
theorem dk_Co_canMove_15 : decode mi_Co_canMove.2.1 15 = .ok (.iload_n 1, 1) := by decide +kernel
theorem dk_Co_canMove_16 : decode mi_Co_canMove.2.1 16 = .ok (.bipush 10, 2) := by decide +kernel
theorem dk_Co_canMove_18 : decode mi_Co_canMove.2.1 18 = .ok (.idiv, 1) := by decide +kernel
theorem dk_Co_canMove_19 : decode mi_Co_canMove.2.1 19 = .ok (.iconst 1, 1) := by decide +kernel
theorem dk_Co_canMove_20 : decode mi_Co_canMove.2.1 20 = .ok (.isub, 1) := by decide +kernel
theorem dk_Co_canMove_21 : decode mi_Co_canMove.2.1 21 = .ok (.invokevirtual 47, 3) := by decide +kernel
theorem dk_Co_canMove_24 : decode mi_Co_canMove.2.1 24 = .ok (.ifCond .eq 7, 3) := by decide +kernel
theorem dk_Co_canMove_27 : decode mi_Co_canMove.2.1 27 = .ok (.iconst 1, 1) := by decide +kernel
theorem dk_Co_canMove_28 : decode mi_Co_canMove.2.1 28 = .ok (.goto 4, 3) := by decide +kernel
theorem dk_Co_canMove_31 : decode mi_Co_canMove.2.1 31 = .ok (.iconst 0, 1) := by decide +kernel
theorem dk_Co_canMove_32 : decode mi_Co_canMove.2.1 32 = .ok (.ireturn, 1) := by decide +kernel
def Co_canMove (o0 : Nat) (p1 : Int32) (σ : nm_St) : Option (Int32 × nm_St) :=
  (if p1 = 0 then
    some ((1 : Int32), σ)
  else
    (if p1 < (10 : Int32) then
      some ((0 : Int32), σ)
    else
      (nm_g (!decide ((10 : Int32) = 0)) (
      (nm_g (!decide ((10 : Int32) = 0)) (
      ((Is_canSuffer o0 (p1 - p1 / (10 : Int32) * (10 : Int32)) ((p1 / (10 : Int32)) - (1 : Int32)) σ).bind fun q3 =>
      (if q3.1 = 0 then
        some ((0 : Int32), q3.2)
      else
        some ((1 : Int32), q3.2)))))))))
set_option maxRecDepth 100000 in
set_option maxHeartbeats 4000000 in
theorem ct_Co_canMove (X : nm_X) (o0 : Nat) (ho0 : nm_isl o0 = true) (p1 : Int32) (σ : nm_St) : Ct X mi_Co_canMove 2 nm_wI [.ref o0, .int p1] σ (Co_canMove o0 p1 σ) := by
  refine Ct.of (by decide +kernel) rfl (fun F hF0 => ?_)
  unfold Co_canMove
  refine rn_iload_n (pc := 0) 1 dk_Co_canMove_0 rfl rfl ?_
  refine rn_if_eq (pc := 1) 27 dk_Co_canMove_1 (by decide) (fun c1 => ?_) (fun c1 => ?_)
  · refine rn_iconst (pc := 27) (1 : Int32) dk_Co_canMove_27 cn_i_1 ?_
    refine rn_goto (pc := 28) 32 dk_Co_canMove_28 (by decide) ?_
    exact rn_zret (ty := .boolean) rfl rfl dk_Co_canMove_32
  · refine rn_iload_n (pc := 4) 1 dk_Co_canMove_4 rfl rfl ?_
    refine rn_bipush (pc := 5) (10 : Int32) dk_Co_canMove_5 cn_b_10 ?_
    refine rn_icmp_lt (pc := 7) 31 dk_Co_canMove_7 (by decide) (fun c2 => ?_) (fun c2 => ?_)
    · refine rn_iconst (pc := 31) (0 : Int32) dk_Co_canMove_31 cn_i_0 ?_
      exact rn_zret (ty := .boolean) rfl rfl dk_Co_canMove_32
    · refine rn_aload_n (pc := 10) 0 dk_Co_canMove_10 rfl rfl (nm_rok_isl ho0) ?_
      refine rn_iload_n (pc := 11) 1 dk_Co_canMove_11 rfl rfl ?_
      refine rn_bipush (pc := 12) (10 : Int32) dk_Co_canMove_12 cn_b_10 ?_
      refine rn_irem (pc := 14) dk_Co_canMove_14 ?_
      refine rn_iload_n (pc := 15) 1 dk_Co_canMove_15 rfl rfl ?_
      refine rn_bipush (pc := 16) (10 : Int32) dk_Co_canMove_16 cn_b_10 ?_
      refine rn_idiv (pc := 18) dk_Co_canMove_18 ?_
      refine rn_iconst (pc := 19) (1 : Int32) dk_Co_canMove_19 cn_i_1 ?_
      refine rn_isub (pc := 20) dk_Co_canMove_20 ?_
      refine cl_Co_47 (pc := 21) (As := [.int (p1 - p1 / (10 : Int32) * (10 : Int32)), .int ((p1 / (10 : Int32)) - (1 : Int32))]) (st := []) o0 ho0 rfl (ct_Is_canSuffer X o0 ho0 (p1 - p1 / (10 : Int32) * (10 : Int32)) ((p1 / (10 : Int32)) - (1 : Int32)) σ) (Nat.le_trans (Nat.le_of_ble_eq_true rfl) hF0) rfl rfl (Nat.le_of_ble_eq_true rfl) dk_Co_canMove_21 (fun q3 => ?_)
      refine rn_if_eq (pc := 24) 31 dk_Co_canMove_24 (by decide) (fun c4 => ?_) (fun c4 => ?_)
      · refine rn_iconst (pc := 31) (0 : Int32) dk_Co_canMove_31 cn_i_0 ?_
        exact rn_zret (ty := .boolean) rfl rfl dk_Co_canMove_32
      · refine rn_iconst (pc := 27) (1 : Int32) dk_Co_canMove_27 cn_i_1 ?_
        refine rn_goto (pc := 28) 32 dk_Co_canMove_28 (by decide) ?_
        exact rn_zret (ty := .boolean) rfl rfl dk_Co_canMove_32
theorem dk_Co_courtPays_0 : decode mi_Co_courtPays.2.1 0 = .ok (.aload_n 1, 1) := by decide +kernel
theorem dk_Co_courtPays_1 : decode mi_Co_courtPays.2.1 1 = .ok (.aload_n 0, 1) := by decide +kernel
theorem dk_Co_courtPays_2 : decode mi_Co_courtPays.2.1 2 = .ok (.aload_n 0, 1) := by decide +kernel
theorem dk_Co_courtPays_3 : decode mi_Co_courtPays.2.1 3 = .ok (.iconst 0, 1) := by decide +kernel
theorem dk_Co_courtPays_4 : decode mi_Co_courtPays.2.1 4 = .ok (.invokevirtual 58, 3) := by decide +kernel
theorem dk_Co_courtPays_7 : decode mi_Co_courtPays.2.1 7 = .ok (.invokevirtual 62, 3) := by decide +kernel
theorem dk_Co_courtPays_10 : decode mi_Co_courtPays.2.1 10 = .ok (.aload_n 1, 1) := by decide +kernel
theorem dk_Co_courtPays_11 : decode mi_Co_courtPays.2.1 11 = .ok (.aload_n 0, 1) := by decide +kernel
theorem dk_Co_courtPays_12 : decode mi_Co_courtPays.2.1 12 = .ok (.invokevirtual 68, 3) := by decide +kernel
theorem dk_Co_courtPays_15 : decode mi_Co_courtPays.2.1 15 = .ok (.aload_n 0, 1) := by decide +kernel
theorem dk_Co_courtPays_16 : decode mi_Co_courtPays.2.1 16 = .ok (.invokevirtual 72, 3) := by decide +kernel
theorem dk_Co_courtPays_19 : decode mi_Co_courtPays.2.1 19 = .ok (.invokevirtual 75, 3) := by decide +kernel
theorem dk_Co_courtPays_22 : decode mi_Co_courtPays.2.1 22 = .ok (.istore_n 2, 1) := by decide +kernel
theorem dk_Co_courtPays_23 : decode mi_Co_courtPays.2.1 23 = .ok (.iload_n 2, 1) := by decide +kernel
theorem dk_Co_courtPays_24 : decode mi_Co_courtPays.2.1 24 = .ok (.iconst (-1), 1) := by decide +kernel
theorem dk_Co_courtPays_25 : decode mi_Co_courtPays.2.1 25 = .ok (.if_icmp .eq 19, 3) := by decide +kernel
theorem dk_Co_courtPays_28 : decode mi_Co_courtPays.2.1 28 = .ok (.aload_n 1, 1) := by decide +kernel
theorem dk_Co_courtPays_29 : decode mi_Co_courtPays.2.1 29 = .ok (.iload_n 2, 1) := by decide +kernel
theorem dk_Co_courtPays_30 : decode mi_Co_courtPays.2.1 30 = .ok (.invokevirtual 79, 3) := by decide +kernel
theorem dk_Co_courtPays_33 : decode mi_Co_courtPays.2.1 33 = .ok (.aload_n 0, 1) := by decide +kernel
theorem dk_Co_courtPays_34 : decode mi_Co_courtPays.2.1 34 = .ok (.getfield 82, 3) := by decide +kernel
theorem dk_Co_courtPays_37 : decode mi_Co_courtPays.2.1 37 = .ok (.if_icmp .gt 7, 3) := by decide +kernel
theorem dk_Co_courtPays_40 : decode mi_Co_courtPays.2.1 40 = .ok (.iconst 1, 1) := by decide +kernel
theorem dk_Co_courtPays_41 : decode mi_Co_courtPays.2.1 41 = .ok (.goto 4, 3) := by decide +kernel
theorem dk_Co_courtPays_44 : decode mi_Co_courtPays.2.1 44 = .ok (.iconst 0, 1) := by decide +kernel
theorem dk_Co_courtPays_45 : decode mi_Co_courtPays.2.1 45 = .ok (.istore_n 3, 1) := by decide +kernel
theorem dk_Co_courtPays_46 : decode mi_Co_courtPays.2.1 46 = .ok (.iload_n 3, 1) := by decide +kernel
theorem dk_Co_courtPays_47 : decode mi_Co_courtPays.2.1 47 = .ok (.ifCond .eq 11, 3) := by decide +kernel
theorem dk_Co_courtPays_50 : decode mi_Co_courtPays.2.1 50 = .ok (.aload_n 1, 1) := by decide +kernel
theorem dk_Co_courtPays_51 : decode mi_Co_courtPays.2.1 51 = .ok (.iload_n 2, 1) := by decide +kernel
theorem dk_Co_courtPays_52 : decode mi_Co_courtPays.2.1 52 = .ok (.invokevirtual 79, 3) := by decide +kernel
theorem dk_Co_courtPays_55 : decode mi_Co_courtPays.2.1 55 = .ok (.goto 6, 3) := by decide +kernel
theorem dk_Co_courtPays_58 : decode mi_Co_courtPays.2.1 58 = .ok (.sipush 10000, 3) := by decide +kernel
theorem dk_Co_courtPays_61 : decode mi_Co_courtPays.2.1 61 = .ok (.ireturn, 1) := by decide +kernel
def Co_courtPays_j45 (o0 : Nat) (x2 : Int32) (y0 : Int32) (σ : nm_St) : Option (Int32 × nm_St) :=
  (if y0 = 0 then
    some ((10000 : Int32), σ)
  else
    ((Se_costOf x2 σ).bind fun q8 =>
    some (q8.1, q8.2)))
set_option maxRecDepth 100000 in
set_option maxHeartbeats 4000000 in
theorem r_Co_courtPays_j45 (X : nm_X) (F : nm_F) (hF0 : 4 ≤ nm_d F) (o0 : Nat) (ho0 : nm_isl o0 = true) (x2 : Int32) (y0 : Int32) (σ : nm_St) : Rn X mi_Co_courtPays F (nm_Qf X F nm_wI) [(1, .ref 23), (2, .int x2)] [.int y0] 45 σ (Co_courtPays_j45 o0 x2 y0 σ) := by
  unfold Co_courtPays_j45
  refine rn_istore_n (pc := 45) 3 dk_Co_courtPays_45 rfl rfl rfl ?_
  refine rn_iload_n (pc := 46) 3 dk_Co_courtPays_46 rfl rfl ?_
  refine rn_if_eq (pc := 47) 58 dk_Co_courtPays_47 (by decide) (fun c7 => ?_) (fun c7 => ?_)
  · refine rn_sipush (pc := 58) (10000 : Int32) dk_Co_courtPays_58 cn_s_10000 ?_
    exact rn_iret rfl dk_Co_courtPays_61
  · refine rn_aload_n (pc := 50) 1 dk_Co_courtPays_50 rfl rfl rfl ?_
    refine rn_iload_n (pc := 51) 2 dk_Co_courtPays_51 rfl rfl ?_
    refine cl_Co_79 (pc := 52) (As := [.int x2]) (st := []) rfl (ct_Se_costOf X x2 σ) (Nat.le_trans (Nat.le_of_ble_eq_true rfl) hF0) rfl rfl (Nat.le_of_ble_eq_true rfl) dk_Co_courtPays_52 (fun q8 => ?_)
    refine rn_goto (pc := 55) 61 dk_Co_courtPays_55 (by decide) ?_
    exact rn_iret rfl dk_Co_courtPays_61
def Co_courtPays_j44 (o0 : Nat) (x2 : Int32) (σ : nm_St) : Option (Int32 × nm_St) :=
  Co_courtPays_j45 o0 x2 (0 : Int32) σ
set_option maxRecDepth 100000 in
set_option maxHeartbeats 4000000 in
theorem r_Co_courtPays_j44 (X : nm_X) (F : nm_F) (hF0 : 4 ≤ nm_d F) (o0 : Nat) (ho0 : nm_isl o0 = true) (x2 : Int32) (σ : nm_St) : Rn X mi_Co_courtPays F (nm_Qf X F nm_wI) [(1, .ref 23), (2, .int x2)] [] 44 σ (Co_courtPays_j44 o0 x2 σ) := by
  unfold Co_courtPays_j44
  refine rn_iconst (pc := 44) (0 : Int32) dk_Co_courtPays_44 cn_i_0 ?_
  exact rn_sub (by rfl) (r_Co_courtPays_j45 X F hF0 o0 ho0 x2 (0 : Int32) σ)
def Co_courtPays (o0 : Nat) (σ : nm_St) : Option (Int32 × nm_St) :=
  ((Is_thoseAt o0 (0 : Int32) σ).bind fun q1 =>
  ((Se_layOut o0 q1.1 q1.2).bind fun q2 =>
  ((Is_knownAbroad o0 q2.2).bind fun q3 =>
  ((Is_allParts o0 q3.2).bind fun q4 =>
  ((Se_cheapestThatMakes q3.1 q4.1 q4.2).bind fun q5 =>
  (if q5.1 = (-1 : Int32) then
    Co_courtPays_j44 o0 q5.1 q5.2
  else
    ((Se_costOf q5.1 q5.2).bind fun q9 =>
    (if (q9.2.1 o0 9) < q9.1 then
      Co_courtPays_j44 o0 q5.1 q9.2
    else
      Co_courtPays_j45 o0 q5.1 (1 : Int32) q9.2))))))))
set_option maxRecDepth 100000 in
set_option maxHeartbeats 4000000 in
theorem ct_Co_courtPays (X : nm_X) (o0 : Nat) (ho0 : nm_isl o0 = true) (σ : nm_St) : Ct X mi_Co_courtPays 4 nm_wI [.ref o0, .ref 23] σ (Co_courtPays o0 σ) := by
  refine Ct.of (by decide +kernel) rfl (fun F hF0 => ?_)
  unfold Co_courtPays
  refine rn_aload_n (pc := 0) 1 dk_Co_courtPays_0 rfl rfl rfl ?_
  refine rn_aload_n (pc := 1) 0 dk_Co_courtPays_1 rfl rfl (nm_rok_isl ho0) ?_
  refine rn_aload_n (pc := 2) 0 dk_Co_courtPays_2 rfl rfl (nm_rok_isl ho0) ?_
  refine rn_iconst (pc := 3) (0 : Int32) dk_Co_courtPays_3 cn_i_0 ?_
  refine cl_Co_58 (pc := 4) (As := [.int (0 : Int32)]) (st := [.ref o0, .ref 23]) o0 ho0 rfl (ct_Is_thoseAt X o0 ho0 (0 : Int32) σ) (Nat.le_trans (Nat.le_of_ble_eq_true rfl) hF0) rfl rfl (Nat.le_of_ble_eq_true rfl) dk_Co_courtPays_4 (fun q1 => ?_)
  refine cl_Co_62 (pc := 7) (As := [.ref o0, .int q1.1]) (st := []) rfl (ct_Se_layOut X o0 ho0 q1.1 q1.2) (Nat.le_trans (Nat.le_of_ble_eq_true rfl) hF0) rfl rfl (Nat.le_of_ble_eq_true rfl) dk_Co_courtPays_7 (fun q2 => ?_)
  refine rn_aload_n (pc := 10) 1 dk_Co_courtPays_10 rfl rfl rfl ?_
  refine rn_aload_n (pc := 11) 0 dk_Co_courtPays_11 rfl rfl (nm_rok_isl ho0) ?_
  refine cl_Co_68 (pc := 12) (As := []) (st := [.ref 23]) o0 ho0 rfl (ct_Is_knownAbroad X o0 ho0 q2.2) (Nat.le_trans (Nat.le_of_ble_eq_true rfl) hF0) rfl rfl (Nat.le_of_ble_eq_true rfl) dk_Co_courtPays_12 (fun q3 => ?_)
  refine rn_aload_n (pc := 15) 0 dk_Co_courtPays_15 rfl rfl (nm_rok_isl ho0) ?_
  refine cl_Co_72 (pc := 16) (As := []) (st := [.int q3.1, .ref 23]) o0 ho0 rfl (ct_Is_allParts X o0 ho0 q3.2) (Nat.le_trans (Nat.le_of_ble_eq_true rfl) hF0) rfl rfl (Nat.le_of_ble_eq_true rfl) dk_Co_courtPays_16 (fun q4 => ?_)
  refine cl_Co_75 (pc := 19) (As := [.int q3.1, .int q4.1]) (st := []) rfl (ct_Se_cheapestThatMakes X q3.1 q4.1 q4.2) (Nat.le_trans (Nat.le_of_ble_eq_true rfl) hF0) rfl rfl (Nat.le_of_ble_eq_true rfl) dk_Co_courtPays_19 (fun q5 => ?_)
  refine rn_istore_n (pc := 22) 2 dk_Co_courtPays_22 rfl rfl rfl ?_
  refine rn_iload_n (pc := 23) 2 dk_Co_courtPays_23 rfl rfl ?_
  refine rn_iconst (pc := 24) (-1 : Int32) dk_Co_courtPays_24 cn_i_m1 ?_
  refine rn_icmp_eq (pc := 25) 44 dk_Co_courtPays_25 (by decide) (fun c6 => ?_) (fun c6 => ?_)
  · exact rn_sub (by rfl) (r_Co_courtPays_j44 X F hF0 o0 ho0 q5.1 q5.2)
  · refine rn_aload_n (pc := 28) 1 dk_Co_courtPays_28 rfl rfl rfl ?_
    refine rn_iload_n (pc := 29) 2 dk_Co_courtPays_29 rfl rfl ?_
    refine cl_Co_79 (pc := 30) (As := [.int q5.1]) (st := []) rfl (ct_Se_costOf X q5.1 q5.2) (Nat.le_trans (Nat.le_of_ble_eq_true rfl) hF0) rfl rfl (Nat.le_of_ble_eq_true rfl) dk_Co_courtPays_30 (fun q9 => ?_)
    refine rn_aload_n (pc := 33) 0 dk_Co_courtPays_33 rfl rfl (nm_rok_isl ho0) ?_
    refine gf_Co_82 (pc := 34) o0 ho0 rfl dk_Co_courtPays_34 ?_
    refine rn_icmp_gt (pc := 37) 44 dk_Co_courtPays_37 (by decide) (fun c10 => ?_) (fun c10 => ?_)
    · exact rn_sub (by rfl) (r_Co_courtPays_j44 X F hF0 o0 ho0 q5.1 q9.2)
    · refine rn_iconst (pc := 40) (1 : Int32) dk_Co_courtPays_40 cn_i_1 ?_
      refine rn_goto (pc := 41) 45 dk_Co_courtPays_41 (by decide) ?_
      exact rn_sub (by rfl) (r_Co_courtPays_j45 X F hF0 o0 ho0 q5.1 (1 : Int32) q9.2)
theorem dk_Co_keepIfBetter_0 : decode mi_Co_keepIfBetter.2.1 0 = .ok (.iload_n 1, 1) := by decide +kernel
theorem dk_Co_keepIfBetter_1 : decode mi_Co_keepIfBetter.2.1 1 = .ok (.aload_n 0, 1) := by decide +kernel
theorem dk_Co_keepIfBetter_2 : decode mi_Co_keepIfBetter.2.1 2 = .ok (.getfield 21, 3) := by decide +kernel
theorem dk_Co_keepIfBetter_5 : decode mi_Co_keepIfBetter.2.1 5 = .ok (.if_icmp .le 18, 3) := by decide +kernel
theorem dk_Co_keepIfBetter_8 : decode mi_Co_keepIfBetter.2.1 8 = .ok (.aload_n 0, 1) := by decide +kernel
theorem dk_Co_keepIfBetter_9 : decode mi_Co_keepIfBetter.2.1 9 = .ok (.iload_n 1, 1) := by decide +kernel
theorem dk_Co_keepIfBetter_10 : decode mi_Co_keepIfBetter.2.1 10 = .ok (.putfield 21, 3) := by decide +kernel
theorem dk_Co_keepIfBetter_13 : decode mi_Co_keepIfBetter.2.1 13 = .ok (.aload_n 0, 1) := by decide +kernel
theorem dk_Co_keepIfBetter_14 : decode mi_Co_keepIfBetter.2.1 14 = .ok (.iload_n 2, 1) := by decide +kernel
theorem dk_Co_keepIfBetter_15 : decode mi_Co_keepIfBetter.2.1 15 = .ok (.putfield 25, 3) := by decide +kernel
theorem dk_Co_keepIfBetter_18 : decode mi_Co_keepIfBetter.2.1 18 = .ok (.aload_n 0, 1) := by decide +kernel
theorem dk_Co_keepIfBetter_19 : decode mi_Co_keepIfBetter.2.1 19 = .ok (.iload_n 3, 1) := by decide +kernel
theorem dk_Co_keepIfBetter_20 : decode mi_Co_keepIfBetter.2.1 20 = .ok (.putfield 28, 3) := by decide +kernel
theorem dk_Co_keepIfBetter_23 : decode mi_Co_keepIfBetter.2.1 23 = .ok (.return_, 1) := by decide +kernel
def Co_keepIfBetter (p1 : Int32) (p2 : Int32) (p3 : Int32) (σ : nm_St) : Option (Unit × nm_St) :=
  (if p1 ≤ (σ.1 27 2) then
    some ((), σ)
  else
    (nm_let (nm_pI σ 27 2 p1) fun s2 =>
    (nm_let (nm_pI s2 27 3 p2) fun s3 =>
    (nm_let (nm_pI s3 27 4 p3) fun s4 =>
    some ((), s4)))))
set_option maxRecDepth 100000 in
set_option maxHeartbeats 4000000 in
theorem ct_Co_keepIfBetter (X : nm_X) (p1 : Int32) (p2 : Int32) (p3 : Int32) (σ : nm_St) : Ct X mi_Co_keepIfBetter 0 nm_wV [.ref 27, .int p1, .int p2, .int p3] σ (Co_keepIfBetter p1 p2 p3 σ) := by
  refine Ct.of (by decide +kernel) rfl (fun F hF0 => ?_)
  unfold Co_keepIfBetter
  refine rn_iload_n (pc := 0) 1 dk_Co_keepIfBetter_0 rfl rfl ?_
  refine rn_aload_n (pc := 1) 0 dk_Co_keepIfBetter_1 rfl rfl rfl ?_
  refine gf_Co_21 (pc := 2) rfl dk_Co_keepIfBetter_2 ?_
  refine rn_icmp_le (pc := 5) 23 dk_Co_keepIfBetter_5 (by decide) (fun c1 => ?_) (fun c1 => ?_)
  · exact rn_vret rfl dk_Co_keepIfBetter_23
  · refine rn_aload_n (pc := 8) 0 dk_Co_keepIfBetter_8 rfl rfl rfl ?_
    refine rn_iload_n (pc := 9) 1 dk_Co_keepIfBetter_9 rfl rfl ?_
    refine pf_Co_21 (pc := 10) rfl dk_Co_keepIfBetter_10 ?_
    refine rn_lets (fun s2 => ?_)
    refine rn_aload_n (pc := 13) 0 dk_Co_keepIfBetter_13 rfl rfl rfl ?_
    refine rn_iload_n (pc := 14) 2 dk_Co_keepIfBetter_14 rfl rfl ?_
    refine pf_Co_25 (pc := 15) rfl dk_Co_keepIfBetter_15 ?_
    refine rn_lets (fun s3 => ?_)
    refine rn_aload_n (pc := 18) 0 dk_Co_keepIfBetter_18 rfl rfl rfl ?_
    refine rn_iload_n (pc := 19) 3 dk_Co_keepIfBetter_19 rfl rfl ?_
    refine pf_Co_28 (pc := 20) rfl dk_Co_keepIfBetter_20 ?_
    refine rn_lets (fun s4 => ?_)
    exact rn_vret rfl dk_Co_keepIfBetter_23
theorem dk_Is_suffer_0 : decode mi_Is_suffer.2.1 0 = .ok (.iload_n 2, 1) := by decide +kernel
theorem dk_Is_suffer_1 : decode mi_Is_suffer.2.1 1 = .ok (.ifCond .lt 21, 3) := by decide +kernel
theorem dk_Is_suffer_4 : decode mi_Is_suffer.2.1 4 = .ok (.iload_n 2, 1) := by decide +kernel
theorem dk_Is_suffer_5 : decode mi_Is_suffer.2.1 5 = .ok (.iconst 3, 1) := by decide +kernel
theorem dk_Is_suffer_6 : decode mi_Is_suffer.2.1 6 = .ok (.if_icmp .ge 16, 3) := by decide +kernel
theorem dk_Is_suffer_9 : decode mi_Is_suffer.2.1 9 = .ok (.aload_n 0, 1) := by decide +kernel
theorem dk_Is_suffer_10 : decode mi_Is_suffer.2.1 10 = .ok (.iload_n 1, 1) := by decide +kernel
theorem dk_Is_suffer_11 : decode mi_Is_suffer.2.1 11 = .ok (.getstatic 116, 3) := by decide +kernel
theorem dk_Is_suffer_14 : decode mi_Is_suffer.2.1 14 = .ok (.iload_n 2, 1) := by decide +kernel
theorem dk_Is_suffer_15 : decode mi_Is_suffer.2.1 15 = .ok (.iaload, 1) := by decide +kernel
theorem dk_Is_suffer_16 : decode mi_Is_suffer.2.1 16 = .ok (.invokevirtual 77, 3) := by decide +kernel
theorem dk_Is_suffer_19 : decode mi_Is_suffer.2.1 19 = .ok (.ifCond .ne 5, 3) := by decide +kernel
theorem dk_Is_suffer_22 : decode mi_Is_suffer.2.1 22 = .ok (.iconst 0, 1) := by decide +kernel
theorem dk_Is_suffer_23 : decode mi_Is_suffer.2.1 23 = .ok (.ireturn, 1) := by decide +kernel
theorem dk_Is_suffer_24 : decode mi_Is_suffer.2.1 24 = .ok (.aload_n 0, 1) := by decide +kernel
theorem dk_Is_suffer_25 : decode mi_Is_suffer.2.1 25 = .ok (.iload_n 1, 1) := by decide +kernel
theorem dk_Is_suffer_26 : decode mi_Is_suffer.2.1 26 = .ok (.getstatic 119, 3) := by decide +kernel
theorem dk_Is_suffer_29 : decode mi_Is_suffer.2.1 29 = .ok (.iload_n 2, 1) := by decide +kernel
theorem dk_Is_suffer_30 : decode mi_Is_suffer.2.1 30 = .ok (.iaload, 1) := by decide +kernel
theorem dk_Is_suffer_31 : decode mi_Is_suffer.2.1 31 = .ok (.invokevirtual 112, 3) := by decide +kernel
theorem dk_Is_suffer_34 : decode mi_Is_suffer.2.1 34 = .ok (.aload_n 0, 1) := by decide +kernel
theorem dk_Is_suffer_35 : decode mi_Is_suffer.2.1 35 = .ok (.iconst 0, 1) := by decide +kernel
theorem dk_Is_suffer_36 : decode mi_Is_suffer.2.1 36 = .ok (.bipush 99, 2) := by decide +kernel
theorem dk_Is_suffer_38 : decode mi_Is_suffer.2.1 38 = .ok (.aload_n 0, 1) := by decide +kernel
theorem dk_Is_suffer_39 : decode mi_Is_suffer.2.1 39 = .ok (.getfield 37, 3) := by decide +kernel
theorem dk_Is_suffer_42 : decode mi_Is_suffer.2.1 42 = .ok (.getstatic 122, 3) := by decide +kernel
theorem dk_Is_suffer_45 : decode mi_Is_suffer.2.1 45 = .ok (.iload_n 2, 1) := by decide +kernel
theorem dk_Is_suffer_46 : decode mi_Is_suffer.2.1 46 = .ok (.iaload, 1) := by decide +kernel
theorem dk_Is_suffer_47 : decode mi_Is_suffer.2.1 47 = .ok (.iadd, 1) := by decide +kernel
theorem dk_Is_suffer_48 : decode mi_Is_suffer.2.1 48 = .ok (.invokestatic 101, 3) := by decide +kernel
theorem dk_Is_suffer_51 : decode mi_Is_suffer.2.1 51 = .ok (.invokestatic 106, 3) := by decide +kernel
theorem dk_Is_suffer_54 : decode mi_Is_suffer.2.1 54 = .ok (.putfield 37, 3) := by decide +kernel
theorem dk_Is_suffer_57 : decode mi_Is_suffer.2.1 57 = .ok (.iconst 1, 1) := by decide +kernel
theorem dk_Is_suffer_58 : decode mi_Is_suffer.2.1 58 = .ok (.ireturn, 1) := by decide +kernel
def Is_suffer (o : Nat) (p1 : Int32) (p2 : Int32) (σ : nm_St) : Option (Int32 × nm_St) :=
  (if p2 < 0 then
    some ((0 : Int32), σ)
  else
    (if (3 : Int32) ≤ p2 then
      some ((0 : Int32), σ)
    else
      (nm_g (nm_in p2 (nm_tabN 1)) (
      ((Is_isAt o p1 ((nm_tab 1).getD p2.toNatClampNeg 0) σ).bind fun q4 =>
      (if q4.1 = 0 then
        some ((0 : Int32), q4.2)
      else
        (nm_g (nm_in p2 (nm_tabN 2)) (
        ((Is_moveTo o p1 ((nm_tab 2).getD p2.toNatClampNeg 0) q4.2).bind fun q7 =>
        (nm_g (nm_in p2 (nm_tabN 3)) (
        (nm_let ((if ((q7.2.1 o 8) + ((nm_tab 3).getD p2.toNatClampNeg 0)) < (99 : Int32) then ((q7.2.1 o 8) + ((nm_tab 3).getD p2.toNatClampNeg 0)) else (99 : Int32))) fun v9 =>
        (nm_let ((if (0 : Int32) < v9 then v9 else (0 : Int32))) fun v10 =>
        (nm_let (nm_pI q7.2 o 8 v10) fun s11 =>
        some ((1 : Int32), s11)))))))))))))))
set_option maxRecDepth 100000 in
set_option maxHeartbeats 4000000 in
theorem ct_Is_suffer (X : nm_X) (o : Nat) (ho : nm_isl o = true) (p1 : Int32) (p2 : Int32) (σ : nm_St) : Ct X mi_Is_suffer 2 nm_wI [.ref o, .int p1, .int p2] σ (Is_suffer o p1 p2 σ) := by
  refine Ct.of (by decide +kernel) rfl (fun F hF0 => ?_)
  unfold Is_suffer
  refine rn_iload_n (pc := 0) 2 dk_Is_suffer_0 rfl rfl ?_
  refine rn_if_lt (pc := 1) 22 dk_Is_suffer_1 (by decide) (fun c1 => ?_) (fun c1 => ?_)
  · refine rn_iconst (pc := 22) (0 : Int32) dk_Is_suffer_22 cn_i_0 ?_
    exact rn_zret (ty := .boolean) rfl rfl dk_Is_suffer_23
  · refine rn_iload_n (pc := 4) 2 dk_Is_suffer_4 rfl rfl ?_
    refine rn_iconst (pc := 5) (3 : Int32) dk_Is_suffer_5 cn_i_3 ?_
    refine rn_icmp_ge (pc := 6) 22 dk_Is_suffer_6 (by decide) (fun c2 => ?_) (fun c2 => ?_)
    · refine rn_iconst (pc := 22) (0 : Int32) dk_Is_suffer_22 cn_i_0 ?_
      exact rn_zret (ty := .boolean) rfl rfl dk_Is_suffer_23
    · refine rn_aload_n (pc := 9) 0 dk_Is_suffer_9 rfl rfl (nm_rok_isl ho) ?_
      refine rn_iload_n (pc := 10) 1 dk_Is_suffer_10 rfl rfl ?_
      refine rn_getTN (pc := 11) 1 (by decide) wd_832 dk_Is_suffer_11 ?_
      refine rn_iload_n (pc := 14) 2 dk_Is_suffer_14 rfl rfl ?_
      refine rn_ialoadT (pc := 15) 1 (by decide) dk_Is_suffer_15 (fun g3 => ?_)
      refine cl_Is_77 (pc := 16) (As := [.int p1, .int ((nm_tab 1).getD p2.toNatClampNeg 0)]) (st := []) o ho rfl (ct_Is_isAt X o ho p1 ((nm_tab 1).getD p2.toNatClampNeg 0) σ) (Nat.le_trans (Nat.le_of_ble_eq_true rfl) hF0) rfl rfl (Nat.le_of_ble_eq_true rfl) dk_Is_suffer_16 (fun q4 => ?_)
      refine rn_if_ne (pc := 19) 24 dk_Is_suffer_19 (by decide) (fun c5 => ?_) (fun c5 => ?_)
      · refine rn_aload_n (pc := 24) 0 dk_Is_suffer_24 rfl rfl (nm_rok_isl ho) ?_
        refine rn_iload_n (pc := 25) 1 dk_Is_suffer_25 rfl rfl ?_
        refine rn_getTN (pc := 26) 2 (by decide) wd_842 dk_Is_suffer_26 ?_
        refine rn_iload_n (pc := 29) 2 dk_Is_suffer_29 rfl rfl ?_
        refine rn_ialoadT (pc := 30) 2 (by decide) dk_Is_suffer_30 (fun g6 => ?_)
        refine cl_Is_112 (pc := 31) (As := [.int p1, .int ((nm_tab 2).getD p2.toNatClampNeg 0)]) (st := []) o ho rfl (ct_Is_moveTo X o ho p1 ((nm_tab 2).getD p2.toNatClampNeg 0) q4.2) (Nat.le_trans (Nat.le_of_ble_eq_true rfl) hF0) rfl rfl (Nat.le_of_ble_eq_true rfl) dk_Is_suffer_31 (fun q7 => ?_)
        refine rn_aload_n (pc := 34) 0 dk_Is_suffer_34 rfl rfl (nm_rok_isl ho) ?_
        refine rn_iconst (pc := 35) (0 : Int32) dk_Is_suffer_35 cn_i_0 ?_
        refine rn_bipush (pc := 36) (99 : Int32) dk_Is_suffer_36 cn_b_99 ?_
        refine rn_aload_n (pc := 38) 0 dk_Is_suffer_38 rfl rfl (nm_rok_isl ho) ?_
        refine gf_Is_37 (pc := 39) o ho rfl dk_Is_suffer_39 ?_
        refine rn_getTN (pc := 42) 3 (by decide) wd_845 dk_Is_suffer_42 ?_
        refine rn_iload_n (pc := 45) 2 dk_Is_suffer_45 rfl rfl ?_
        refine rn_ialoadT (pc := 46) 3 (by decide) dk_Is_suffer_46 (fun g8 => ?_)
        refine rn_iadd (pc := 47) dk_Is_suffer_47 ?_
        refine rn_mmin (pc := 48) (Nat.le_trans (Nat.le_of_ble_eq_true rfl) hF0) wd_779 (Nat.le_of_ble_eq_true rfl) dk_Is_suffer_48 ?_
        refine rn_leti (fun v9 => ?_)
        refine rn_mmax (pc := 51) (Nat.le_trans (Nat.le_of_ble_eq_true rfl) hF0) wd_464 (Nat.le_of_ble_eq_true rfl) dk_Is_suffer_51 ?_
        refine rn_leti (fun v10 => ?_)
        refine pf_Is_37 (pc := 54) o ho rfl dk_Is_suffer_54 ?_
        refine rn_lets (fun s11 => ?_)
        refine rn_iconst (pc := 57) (1 : Int32) dk_Is_suffer_57 cn_i_1 ?_
        exact rn_zret (ty := .boolean) rfl rfl dk_Is_suffer_58
      · refine rn_iconst (pc := 22) (0 : Int32) dk_Is_suffer_22 cn_i_0 ?_
        exact rn_zret (ty := .boolean) rfl rfl dk_Is_suffer_23
theorem dk_Co_moveOn_0 : decode mi_Co_moveOn.2.1 0 = .ok (.aload_n 2, 1) := by decide +kernel
theorem dk_Co_moveOn_1 : decode mi_Co_moveOn.2.1 1 = .ok (.aload_n 0, 1) := by decide +kernel
theorem dk_Co_moveOn_2 : decode mi_Co_moveOn.2.1 2 = .ok (.invokevirtual 51, 3) := by decide +kernel
theorem dk_Co_moveOn_5 : decode mi_Co_moveOn.2.1 5 = .ok (.iload_n 1, 1) := by decide +kernel
theorem dk_Co_moveOn_6 : decode mi_Co_moveOn.2.1 6 = .ok (.bipush 10, 2) := by decide +kernel
theorem dk_Co_moveOn_8 : decode mi_Co_moveOn.2.1 8 = .ok (.if_icmp .lt 18, 3) := by decide +kernel
theorem dk_Co_moveOn_11 : decode mi_Co_moveOn.2.1 11 = .ok (.aload_n 2, 1) := by decide +kernel
theorem dk_Co_moveOn_12 : decode mi_Co_moveOn.2.1 12 = .ok (.iload_n 1, 1) := by decide +kernel
theorem dk_Co_moveOn_13 : decode mi_Co_moveOn.2.1 13 = .ok (.bipush 10, 2) := by decide +kernel
theorem dk_Co_moveOn_15 : decode mi_Co_moveOn.2.1 15 = .ok (.irem, 1) := by decide +kernel
theorem dk_Co_moveOn_16 : decode mi_Co_moveOn.2.1 16 = .ok (.iload_n 1, 1) := by decide +kernel
theorem dk_Co_moveOn_17 : decode mi_Co_moveOn.2.1 17 = .ok (.bipush 10, 2) := by decide +kernel
theorem dk_Co_moveOn_19 : decode mi_Co_moveOn.2.1 19 = .ok (.idiv, 1) := by decide +kernel
theorem dk_Co_moveOn_20 : decode mi_Co_moveOn.2.1 20 = .ok (.iconst 1, 1) := by decide +kernel
theorem dk_Co_moveOn_21 : decode mi_Co_moveOn.2.1 21 = .ok (.isub, 1) := by decide +kernel
theorem dk_Co_moveOn_22 : decode mi_Co_moveOn.2.1 22 = .ok (.invokevirtual 55, 3) := by decide +kernel
theorem dk_Co_moveOn_25 : decode mi_Co_moveOn.2.1 25 = .ok (.pop, 1) := by decide +kernel
theorem dk_Co_moveOn_26 : decode mi_Co_moveOn.2.1 26 = .ok (.return_, 1) := by decide +kernel
def Co_moveOn (o0 : Nat) (p1 : Int32) (o2 : Nat) (σ : nm_St) : Option (Unit × nm_St) :=
  ((Is_become o2 o0 σ).bind fun q1 =>
  (if p1 < (10 : Int32) then
    some ((), q1.2)
  else
    (nm_g (!decide ((10 : Int32) = 0)) (
    (nm_g (!decide ((10 : Int32) = 0)) (
    ((Is_suffer o2 (p1 - p1 / (10 : Int32) * (10 : Int32)) ((p1 / (10 : Int32)) - (1 : Int32)) q1.2).bind fun q3 =>
    some ((), q3.2))))))))
set_option maxRecDepth 100000 in
set_option maxHeartbeats 4000000 in
theorem ct_Co_moveOn (X : nm_X) (o0 : Nat) (ho0 : nm_isl o0 = true) (p1 : Int32) (o2 : Nat) (ho2 : nm_isl o2 = true) (σ : nm_St) : Ct X mi_Co_moveOn 3 nm_wV [.ref o0, .int p1, .ref o2] σ (Co_moveOn o0 p1 o2 σ) := by
  refine Ct.of (by decide +kernel) rfl (fun F hF0 => ?_)
  unfold Co_moveOn
  refine rn_aload_n (pc := 0) 2 dk_Co_moveOn_0 rfl rfl (nm_rok_isl ho2) ?_
  refine rn_aload_n (pc := 1) 0 dk_Co_moveOn_1 rfl rfl (nm_rok_isl ho0) ?_
  refine cl_Co_51 (pc := 2) (As := [.ref o0]) (st := []) o2 ho2 rfl (ct_Is_become X o2 ho2 o0 ho0 σ) (Nat.le_trans (Nat.le_of_ble_eq_true rfl) hF0) rfl rfl (Nat.le_of_ble_eq_true rfl) dk_Co_moveOn_2 (fun q1 => ?_)
  refine rn_iload_n (pc := 5) 1 dk_Co_moveOn_5 rfl rfl ?_
  refine rn_bipush (pc := 6) (10 : Int32) dk_Co_moveOn_6 cn_b_10 ?_
  refine rn_icmp_lt (pc := 8) 26 dk_Co_moveOn_8 (by decide) (fun c2 => ?_) (fun c2 => ?_)
  · exact rn_vret rfl dk_Co_moveOn_26
  · refine rn_aload_n (pc := 11) 2 dk_Co_moveOn_11 rfl rfl (nm_rok_isl ho2) ?_
    refine rn_iload_n (pc := 12) 1 dk_Co_moveOn_12 rfl rfl ?_
    refine rn_bipush (pc := 13) (10 : Int32) dk_Co_moveOn_13 cn_b_10 ?_
    refine rn_irem (pc := 15) dk_Co_moveOn_15 ?_
    refine rn_iload_n (pc := 16) 1 dk_Co_moveOn_16 rfl rfl ?_
    refine rn_bipush (pc := 17) (10 : Int32) dk_Co_moveOn_17 cn_b_10 ?_
    refine rn_idiv (pc := 19) dk_Co_moveOn_19 ?_
    refine rn_iconst (pc := 20) (1 : Int32) dk_Co_moveOn_20 cn_i_1 ?_
    refine rn_isub (pc := 21) dk_Co_moveOn_21 ?_
    refine cl_Co_55 (pc := 22) (As := [.int (p1 - p1 / (10 : Int32) * (10 : Int32)), .int ((p1 / (10 : Int32)) - (1 : Int32))]) (st := []) o2 ho2 rfl (ct_Is_suffer X o2 ho2 (p1 - p1 / (10 : Int32) * (10 : Int32)) ((p1 / (10 : Int32)) - (1 : Int32)) q1.2) (Nat.le_trans (Nat.le_of_ble_eq_true rfl) hF0) rfl rfl (Nat.le_of_ble_eq_true rfl) dk_Co_moveOn_22 (fun q3 => ?_)
    refine rn_pop (pc := 25) dk_Co_moveOn_25 rfl ?_
    exact rn_vret rfl dk_Co_moveOn_26
theorem dk_Co_weigh_0 : decode mi_Co_weigh.2.1 0 = .ok (.iload_n 2, 1) := by decide +kernel
theorem dk_Co_weigh_1 : decode mi_Co_weigh.2.1 1 = .ok (.ifCond .le 8, 3) := by decide +kernel
theorem dk_Co_weigh_4 : decode mi_Co_weigh.2.1 4 = .ok (.bipush 30, 2) := by decide +kernel
theorem dk_Co_weigh_6 : decode mi_Co_weigh.2.1 6 = .ok (.goto 4, 3) := by decide +kernel
theorem dk_Co_weigh_9 : decode mi_Co_weigh.2.1 9 = .ok (.iconst 1, 1) := by decide +kernel
theorem dk_Co_weigh_10 : decode mi_Co_weigh.2.1 10 = .ok (.istore 4, 2) := by decide +kernel
theorem dk_Co_weigh_12 : decode mi_Co_weigh.2.1 12 = .ok (.iload_n 2, 1) := by decide +kernel
theorem dk_Co_weigh_13 : decode mi_Co_weigh.2.1 13 = .ok (.iconst 1, 1) := by decide +kernel
theorem dk_Co_weigh_14 : decode mi_Co_weigh.2.1 14 = .ok (.if_icmp .le 8, 3) := by decide +kernel
theorem dk_Co_weigh_17 : decode mi_Co_weigh.2.1 17 = .ok (.bipush 30, 2) := by decide +kernel
theorem dk_Co_weigh_19 : decode mi_Co_weigh.2.1 19 = .ok (.goto 4, 3) := by decide +kernel
theorem dk_Co_weigh_22 : decode mi_Co_weigh.2.1 22 = .ok (.iconst 1, 1) := by decide +kernel
theorem dk_Co_weigh_23 : decode mi_Co_weigh.2.1 23 = .ok (.istore 5, 2) := by decide +kernel
theorem dk_Co_weigh_25 : decode mi_Co_weigh.2.1 25 = .ok (.aload_n 0, 1) := by decide +kernel
theorem dk_Co_weigh_26 : decode mi_Co_weigh.2.1 26 = .ok (.iconst (-1), 1) := by decide +kernel
theorem dk_Co_weigh_27 : decode mi_Co_weigh.2.1 27 = .ok (.putfield 21, 3) := by decide +kernel
theorem dk_Co_weigh_30 : decode mi_Co_weigh.2.1 30 = .ok (.iconst 0, 1) := by decide +kernel
theorem dk_Co_weigh_31 : decode mi_Co_weigh.2.1 31 = .ok (.istore 6, 2) := by decide +kernel
theorem dk_Co_weigh_33 : decode mi_Co_weigh.2.1 33 = .ok (.iload 6, 2) := by decide +kernel
theorem dk_Co_weigh_35 : decode mi_Co_weigh.2.1 35 = .ok (.iload 4, 2) := by decide +kernel
theorem dk_Co_weigh_37 : decode mi_Co_weigh.2.1 37 = .ok (.if_icmp .ge 88, 3) := by decide +kernel
theorem dk_Co_weigh_40 : decode mi_Co_weigh.2.1 40 = .ok (.aload_n 1, 1) := by decide +kernel
theorem dk_Co_weigh_41 : decode mi_Co_weigh.2.1 41 = .ok (.iload 6, 2) := by decide +kernel
theorem dk_Co_weigh_43 : decode mi_Co_weigh.2.1 43 = .ok (.invokestatic 31, 3) := by decide +kernel
theorem dk_Co_weigh_46 : decode mi_Co_weigh.2.1 46 = .ok (.ifCond .ne 6, 3) := by decide +kernel
theorem dk_Co_weigh_49 : decode mi_Co_weigh.2.1 49 = .ok (.goto 70, 3) := by decide +kernel
theorem dk_Co_weigh_52 : decode mi_Co_weigh.2.1 52 = .ok (.aload_n 1, 1) := by decide +kernel
theorem dk_Co_weigh_53 : decode mi_Co_weigh.2.1 53 = .ok (.iload 6, 2) := by decide +kernel
theorem dk_Co_weigh_55 : decode mi_Co_weigh.2.1 55 = .ok (.aload_n 0, 1) := by decide +kernel
theorem dk_Co_weigh_56 : decode mi_Co_weigh.2.1 56 = .ok (.getfield 12, 3) := by decide +kernel
theorem dk_Co_weigh_59 : decode mi_Co_weigh.2.1 59 = .ok (.invokestatic 35, 3) := by decide +kernel
theorem dk_Co_weigh_62 : decode mi_Co_weigh.2.1 62 = .ok (.iconst 0, 1) := by decide +kernel
theorem dk_Co_weigh_63 : decode mi_Co_weigh.2.1 63 = .ok (.istore 7, 2) := by decide +kernel
theorem dk_Co_weigh_65 : decode mi_Co_weigh.2.1 65 = .ok (.iload 7, 2) := by decide +kernel
theorem dk_Co_weigh_67 : decode mi_Co_weigh.2.1 67 = .ok (.iload 5, 2) := by decide +kernel
theorem dk_Co_weigh_69 : decode mi_Co_weigh.2.1 69 = .ok (.if_icmp .ge 50, 3) := by decide +kernel
theorem dk_Co_weigh_72 : decode mi_Co_weigh.2.1 72 = .ok (.aload_n 0, 1) := by decide +kernel
theorem dk_Co_weigh_73 : decode mi_Co_weigh.2.1 73 = .ok (.getfield 12, 3) := by decide +kernel
theorem dk_Co_weigh_76 : decode mi_Co_weigh.2.1 76 = .ok (.iload 7, 2) := by decide +kernel
theorem dk_Co_weigh_78 : decode mi_Co_weigh.2.1 78 = .ok (.invokestatic 31, 3) := by decide +kernel
theorem dk_Co_weigh_81 : decode mi_Co_weigh.2.1 81 = .ok (.ifCond .eq 32, 3) := by decide +kernel
theorem dk_Co_weigh_84 : decode mi_Co_weigh.2.1 84 = .ok (.aload_n 0, 1) := by decide +kernel
theorem dk_Co_weigh_85 : decode mi_Co_weigh.2.1 85 = .ok (.getfield 12, 3) := by decide +kernel
theorem dk_Co_weigh_88 : decode mi_Co_weigh.2.1 88 = .ok (.iload 7, 2) := by decide +kernel
theorem dk_Co_weigh_90 : decode mi_Co_weigh.2.1 90 = .ok (.aload_n 0, 1) := by decide +kernel
theorem dk_Co_weigh_91 : decode mi_Co_weigh.2.1 91 = .ok (.getfield 18, 3) := by decide +kernel
theorem dk_Co_weigh_94 : decode mi_Co_weigh.2.1 94 = .ok (.invokestatic 35, 3) := by decide +kernel
theorem dk_Co_weigh_97 : decode mi_Co_weigh.2.1 97 = .ok (.aload_n 0, 1) := by decide +kernel
theorem dk_Co_weigh_98 : decode mi_Co_weigh.2.1 98 = .ok (.aload_n 0, 1) := by decide +kernel
theorem dk_Co_weigh_99 : decode mi_Co_weigh.2.1 99 = .ok (.getfield 18, 3) := by decide +kernel
theorem dk_Co_weigh_102 : decode mi_Co_weigh.2.1 102 = .ok (.aload_n 3, 1) := by decide +kernel
theorem dk_Co_weigh_103 : decode mi_Co_weigh.2.1 103 = .ok (.invokestatic 39, 3) := by decide +kernel
theorem dk_Co_weigh_106 : decode mi_Co_weigh.2.1 106 = .ok (.iload 6, 2) := by decide +kernel
theorem dk_Co_weigh_108 : decode mi_Co_weigh.2.1 108 = .ok (.iload 7, 2) := by decide +kernel
theorem dk_Co_weigh_110 : decode mi_Co_weigh.2.1 110 = .ok (.invokevirtual 43, 3) := by decide +kernel
theorem dk_Co_weigh_113 : decode mi_Co_weigh.2.1 113 = .ok (.iinc 7 1, 3) := by decide +kernel
theorem dk_Co_weigh_116 : decode mi_Co_weigh.2.1 116 = .ok (.goto (-51), 3) := by decide +kernel
theorem dk_Co_weigh_119 : decode mi_Co_weigh.2.1 119 = .ok (.iinc 6 1, 3) := by decide +kernel
theorem dk_Co_weigh_122 : decode mi_Co_weigh.2.1 122 = .ok (.goto (-89), 3) := by decide +kernel
theorem dk_Co_weigh_125 : decode mi_Co_weigh.2.1 125 = .ok (.return_, 1) := by decide +kernel
def Co_weigh_l65 (o1 : Nat) (k_119 : Int32 → Int32 → Int32 → nm_St → Option (Unit × nm_St)) : Nat → Int32 → Int32 → Int32 → Int32 → nm_St → Option (Unit × nm_St)
  | 0, _, _, _, _, _ => none
  | n + 1, x4, x5, x6, x7, σ =>
    (if x5 ≤ x7 then
      k_119 x4 x5 x6 σ
    else
      ((Co_canMove 28 x7 σ).bind fun q9 =>
      (if q9.1 = 0 then
        (Co_weigh_l65 o1 k_119 n) x4 x5 x6 (x7 + (1 : Int32)) q9.2
      else
        ((Co_moveOn 28 x7 35 q9.2).bind fun q11 =>
        ((Co_courtPays 35 q11.2).bind fun q12 =>
        ((Co_keepIfBetter q12.1 x6 x7 q12.2).bind fun q13 =>
        (Co_weigh_l65 o1 k_119 n) x4 x5 x6 (x7 + (1 : Int32)) q13.2))))))
set_option maxRecDepth 100000 in
set_option maxHeartbeats 4000000 in
theorem r_Co_weigh_l65 (X : nm_X) (F : nm_F) (hF0 : 5 ≤ nm_d F) (o1 : Nat) (ho1 : nm_isl o1 = true) (k_119 : Int32 → Int32 → Int32 → nm_St → Option (Unit × nm_St)) (hk_119 : ∀ (x4 : Int32) (x5 : Int32) (x6 : Int32) (σ : nm_St), Rn X mi_Co_weigh F (nm_Qf X F nm_wV) [(0, .ref 27), (1, .ref o1), (3, .ref 23), (4, .int x4), (5, .int x5), (6, .int x6)] [] 119 σ (k_119 x4 x5 x6 σ)) : ∀ (n : Nat) (x4 : Int32) (x5 : Int32) (x6 : Int32) (x7 : Int32) (σ : nm_St), Rn X mi_Co_weigh F (nm_Qf X F nm_wV) [(0, .ref 27), (1, .ref o1), (3, .ref 23), (4, .int x4), (5, .int x5), (6, .int x6), (7, .int x7)] [] 65 σ (Co_weigh_l65 o1 k_119 n x4 x5 x6 x7 σ) := by
  intro n
  induction n with
  | zero =>
    intro x4 x5 x6 x7 σ
    exact rn_none
  | succ n ih =>
    intro x4 x5 x6 x7 σ
    unfold Co_weigh_l65
    refine rn_iload (pc := 65) dk_Co_weigh_65 rfl ?_
    refine rn_iload (pc := 67) dk_Co_weigh_67 rfl ?_
    refine rn_icmp_ge (pc := 69) 119 dk_Co_weigh_69 (by decide) (fun c8 => ?_) (fun c8 => ?_)
    · exact rn_sub (by rfl) (hk_119 x4 x5 x6 σ)
    · refine rn_aload_n (pc := 72) 0 dk_Co_weigh_72 rfl rfl rfl ?_
      refine gf_Co_12 (pc := 73) rfl dk_Co_weigh_73 ?_
      refine rn_iload (pc := 76) dk_Co_weigh_76 rfl ?_
      refine cl_Co_31 (pc := 78) (As := [.ref 28, .int x7]) (st := []) rfl (ct_Co_canMove X 28 rfl x7 σ) (Nat.le_trans (Nat.le_of_ble_eq_true rfl) hF0) rfl rfl (Nat.le_of_ble_eq_true rfl) dk_Co_weigh_78 (fun q9 => ?_)
      refine rn_if_eq (pc := 81) 113 dk_Co_weigh_81 (by decide) (fun c10 => ?_) (fun c10 => ?_)
      · refine rn_iinc (pc := 113) (1 : Int32) dk_Co_weigh_113 cn_i_1 rfl rfl rfl ?_
        refine rn_goto (pc := 116) 65 dk_Co_weigh_116 (by decide) ?_
        exact rn_sub (by rfl) (ih x4 x5 x6 (x7 + (1 : Int32)) q9.2)
      · refine rn_aload_n (pc := 84) 0 dk_Co_weigh_84 rfl rfl rfl ?_
        refine gf_Co_12 (pc := 85) rfl dk_Co_weigh_85 ?_
        refine rn_iload (pc := 88) dk_Co_weigh_88 rfl ?_
        refine rn_aload_n (pc := 90) 0 dk_Co_weigh_90 rfl rfl rfl ?_
        refine gf_Co_18 (pc := 91) rfl dk_Co_weigh_91 ?_
        refine cl_Co_35 (pc := 94) (As := [.ref 28, .int x7, .ref 35]) (st := []) rfl (ct_Co_moveOn X 28 rfl x7 35 rfl q9.2) (Nat.le_trans (Nat.le_of_ble_eq_true rfl) hF0) rfl rfl (Nat.le_of_ble_eq_true rfl) dk_Co_weigh_94 (fun q11 => ?_)
        refine rn_aload_n (pc := 97) 0 dk_Co_weigh_97 rfl rfl rfl ?_
        refine rn_aload_n (pc := 98) 0 dk_Co_weigh_98 rfl rfl rfl ?_
        refine gf_Co_18 (pc := 99) rfl dk_Co_weigh_99 ?_
        refine rn_aload_n (pc := 102) 3 dk_Co_weigh_102 rfl rfl rfl ?_
        refine cl_Co_39 (pc := 103) (As := [.ref 35, .ref 23]) (st := [.ref 27]) rfl (ct_Co_courtPays X 35 rfl q11.2) (Nat.le_trans (Nat.le_of_ble_eq_true rfl) hF0) rfl rfl (Nat.le_of_ble_eq_true rfl) dk_Co_weigh_103 (fun q12 => ?_)
        refine rn_iload (pc := 106) dk_Co_weigh_106 rfl ?_
        refine rn_iload (pc := 108) dk_Co_weigh_108 rfl ?_
        refine cl_Co_43 (pc := 110) (As := [.int q12.1, .int x6, .int x7]) (st := []) rfl (ct_Co_keepIfBetter X q12.1 x6 x7 q12.2) (Nat.le_trans (Nat.le_of_ble_eq_true rfl) hF0) rfl rfl (Nat.le_of_ble_eq_true rfl) dk_Co_weigh_110 (fun q13 => ?_)
        refine rn_iinc (pc := 113) (1 : Int32) dk_Co_weigh_113 cn_i_1 rfl rfl rfl ?_
        refine rn_goto (pc := 116) 65 dk_Co_weigh_116 (by decide) ?_
        exact rn_sub (by rfl) (ih x4 x5 x6 (x7 + (1 : Int32)) q13.2)
def Co_weigh_l33 (o1 : Nat) (k_125 : nm_St → Option (Unit × nm_St)) : Nat → Int32 → Int32 → Int32 → nm_St → Option (Unit × nm_St)
  | 0, _, _, _, _ => none
  | n + 1, x4, x5, x6, σ =>
    (if x4 ≤ x6 then
      k_125 σ
    else
      ((Co_canMove o1 x6 σ).bind fun q5 =>
      (if q5.1 = 0 then
        (Co_weigh_l33 o1 k_125 n) x4 x5 (x6 + (1 : Int32)) q5.2
      else
        ((Co_moveOn o1 x6 28 q5.2).bind fun q7 =>
        Co_weigh_l65 o1 (fun (e15 : Int32) (e16 : Int32) (e17 : Int32) (s14 : nm_St) =>
          (Co_weigh_l33 o1 k_125 n) e15 e16 (e17 + (1 : Int32)) s14) 400 x4 x5 x6 (0 : Int32) q7.2))))
set_option maxRecDepth 100000 in
set_option maxHeartbeats 4000000 in
theorem r_Co_weigh_l33 (X : nm_X) (F : nm_F) (hF0 : 5 ≤ nm_d F) (o1 : Nat) (ho1 : nm_isl o1 = true) (k_125 : nm_St → Option (Unit × nm_St)) (hk_125 : ∀ (σ : nm_St), Rn X mi_Co_weigh F (nm_Qf X F nm_wV) [] [] 125 σ (k_125 σ)) : ∀ (n : Nat) (x4 : Int32) (x5 : Int32) (x6 : Int32) (σ : nm_St), Rn X mi_Co_weigh F (nm_Qf X F nm_wV) [(0, .ref 27), (1, .ref o1), (3, .ref 23), (4, .int x4), (5, .int x5), (6, .int x6)] [] 33 σ (Co_weigh_l33 o1 k_125 n x4 x5 x6 σ) := by
  intro n
  induction n with
  | zero =>
    intro x4 x5 x6 σ
    exact rn_none
  | succ n ih =>
    intro x4 x5 x6 σ
    unfold Co_weigh_l33
    refine rn_iload (pc := 33) dk_Co_weigh_33 rfl ?_
    refine rn_iload (pc := 35) dk_Co_weigh_35 rfl ?_
    refine rn_icmp_ge (pc := 37) 125 dk_Co_weigh_37 (by decide) (fun c4 => ?_) (fun c4 => ?_)
    · exact rn_sub (by rfl) (hk_125 σ)
    · refine rn_aload_n (pc := 40) 1 dk_Co_weigh_40 rfl rfl (nm_rok_isl ho1) ?_
      refine rn_iload (pc := 41) dk_Co_weigh_41 rfl ?_
      refine cl_Co_31 (pc := 43) (As := [.ref o1, .int x6]) (st := []) rfl (ct_Co_canMove X o1 ho1 x6 σ) (Nat.le_trans (Nat.le_of_ble_eq_true rfl) hF0) rfl rfl (Nat.le_of_ble_eq_true rfl) dk_Co_weigh_43 (fun q5 => ?_)
      refine rn_if_ne (pc := 46) 52 dk_Co_weigh_46 (by decide) (fun c6 => ?_) (fun c6 => ?_)
      · refine rn_aload_n (pc := 52) 1 dk_Co_weigh_52 rfl rfl (nm_rok_isl ho1) ?_
        refine rn_iload (pc := 53) dk_Co_weigh_53 rfl ?_
        refine rn_aload_n (pc := 55) 0 dk_Co_weigh_55 rfl rfl rfl ?_
        refine gf_Co_12 (pc := 56) rfl dk_Co_weigh_56 ?_
        refine cl_Co_35 (pc := 59) (As := [.ref o1, .int x6, .ref 28]) (st := []) rfl (ct_Co_moveOn X o1 ho1 x6 28 rfl q5.2) (Nat.le_trans (Nat.le_of_ble_eq_true rfl) hF0) rfl rfl (Nat.le_of_ble_eq_true rfl) dk_Co_weigh_59 (fun q7 => ?_)
        refine rn_iconst (pc := 62) (0 : Int32) dk_Co_weigh_62 cn_i_0 ?_
        refine rn_istore (pc := 63) dk_Co_weigh_63 rfl rfl ?_
        refine rn_sub (by rfl) (r_Co_weigh_l65 X F hF0 o1 ho1 _ (fun e15 e16 e17 s14 => ?_) 400 x4 x5 x6 (0 : Int32) q7.2)
        refine rn_iinc (pc := 119) (1 : Int32) dk_Co_weigh_119 cn_i_1 rfl rfl rfl ?_
        refine rn_goto (pc := 122) 33 dk_Co_weigh_122 (by decide) ?_
        exact rn_sub (by rfl) (ih e15 e16 (e17 + (1 : Int32)) s14)
      · refine rn_goto (pc := 49) 119 dk_Co_weigh_49 (by decide) ?_
        refine rn_iinc (pc := 119) (1 : Int32) dk_Co_weigh_119 cn_i_1 rfl rfl rfl ?_
        refine rn_goto (pc := 122) 33 dk_Co_weigh_122 (by decide) ?_
        exact rn_sub (by rfl) (ih x4 x5 (x6 + (1 : Int32)) q5.2)
def Co_weigh_j23 (o1 : Nat) (x4 : Int32) (y0 : Int32) (σ : nm_St) : Option (Unit × nm_St) :=
  (nm_let (nm_pI σ 27 2 (-1 : Int32)) fun s3 =>
  Co_weigh_l33 o1 (fun (s18 : nm_St) =>
    some ((), s18)) 400 x4 y0 (0 : Int32) s3)
set_option maxRecDepth 100000 in
set_option maxHeartbeats 4000000 in
theorem r_Co_weigh_j23 (X : nm_X) (F : nm_F) (hF0 : 5 ≤ nm_d F) (o1 : Nat) (ho1 : nm_isl o1 = true) (x4 : Int32) (y0 : Int32) (σ : nm_St) : Rn X mi_Co_weigh F (nm_Qf X F nm_wV) [(0, .ref 27), (1, .ref o1), (3, .ref 23), (4, .int x4)] [.int y0] 23 σ (Co_weigh_j23 o1 x4 y0 σ) := by
  unfold Co_weigh_j23
  refine rn_istore (pc := 23) dk_Co_weigh_23 rfl rfl ?_
  refine rn_aload_n (pc := 25) 0 dk_Co_weigh_25 rfl rfl rfl ?_
  refine rn_iconst (pc := 26) (-1 : Int32) dk_Co_weigh_26 cn_i_m1 ?_
  refine pf_Co_21 (pc := 27) rfl dk_Co_weigh_27 ?_
  refine rn_lets (fun s3 => ?_)
  refine rn_iconst (pc := 30) (0 : Int32) dk_Co_weigh_30 cn_i_0 ?_
  refine rn_istore (pc := 31) dk_Co_weigh_31 rfl rfl ?_
  refine rn_sub (by rfl) (r_Co_weigh_l33 X F hF0 o1 ho1 _ (fun s18 => ?_) 400 x4 y0 (0 : Int32) s3)
  exact rn_vret rfl dk_Co_weigh_125
def Co_weigh_j10 (o1 : Nat) (x2 : Int32) (y0 : Int32) (σ : nm_St) : Option (Unit × nm_St) :=
  (if x2 ≤ (1 : Int32) then
    Co_weigh_j23 o1 y0 (1 : Int32) σ
  else
    Co_weigh_j23 o1 y0 (30 : Int32) σ)
set_option maxRecDepth 100000 in
set_option maxHeartbeats 4000000 in
theorem r_Co_weigh_j10 (X : nm_X) (F : nm_F) (hF0 : 5 ≤ nm_d F) (o1 : Nat) (ho1 : nm_isl o1 = true) (x2 : Int32) (y0 : Int32) (σ : nm_St) : Rn X mi_Co_weigh F (nm_Qf X F nm_wV) [(0, .ref 27), (1, .ref o1), (2, .int x2), (3, .ref 23)] [.int y0] 10 σ (Co_weigh_j10 o1 x2 y0 σ) := by
  unfold Co_weigh_j10
  refine rn_istore (pc := 10) dk_Co_weigh_10 rfl rfl ?_
  refine rn_iload_n (pc := 12) 2 dk_Co_weigh_12 rfl rfl ?_
  refine rn_iconst (pc := 13) (1 : Int32) dk_Co_weigh_13 cn_i_1 ?_
  refine rn_icmp_le (pc := 14) 22 dk_Co_weigh_14 (by decide) (fun c2 => ?_) (fun c2 => ?_)
  · refine rn_iconst (pc := 22) (1 : Int32) dk_Co_weigh_22 cn_i_1 ?_
    exact rn_sub (by rfl) (r_Co_weigh_j23 X F hF0 o1 ho1 y0 (1 : Int32) σ)
  · refine rn_bipush (pc := 17) (30 : Int32) dk_Co_weigh_17 cn_b_30 ?_
    refine rn_goto (pc := 19) 23 dk_Co_weigh_19 (by decide) ?_
    exact rn_sub (by rfl) (r_Co_weigh_j23 X F hF0 o1 ho1 y0 (30 : Int32) σ)
def Co_weigh (o1 : Nat) (p2 : Int32) (σ : nm_St) : Option (Unit × nm_St) :=
  (if p2 ≤ 0 then
    Co_weigh_j10 o1 p2 (1 : Int32) σ
  else
    Co_weigh_j10 o1 p2 (30 : Int32) σ)
set_option maxRecDepth 100000 in
set_option maxHeartbeats 4000000 in
theorem ct_Co_weigh (X : nm_X) (o1 : Nat) (ho1 : nm_isl o1 = true) (p2 : Int32) (σ : nm_St) : Ct X mi_Co_weigh 5 nm_wV [.ref 27, .ref o1, .int p2, .ref 23] σ (Co_weigh o1 p2 σ) := by
  refine Ct.of (by decide +kernel) rfl (fun F hF0 => ?_)
  unfold Co_weigh
  refine rn_iload_n (pc := 0) 2 dk_Co_weigh_0 rfl rfl ?_
  refine rn_if_le (pc := 1) 9 dk_Co_weigh_1 (by decide) (fun c1 => ?_) (fun c1 => ?_)
  · refine rn_iconst (pc := 9) (1 : Int32) dk_Co_weigh_9 cn_i_1 ?_
    exact rn_sub (by rfl) (r_Co_weigh_j10 X F hF0 o1 ho1 p2 (1 : Int32) σ)
  · refine rn_bipush (pc := 4) (30 : Int32) dk_Co_weigh_4 cn_b_30 ?_
    refine rn_goto (pc := 6) 10 dk_Co_weigh_6 (by decide) ?_
    exact rn_sub (by rfl) (r_Co_weigh_j10 X F hF0 o1 ho1 p2 (30 : Int32) σ)
theorem dk_Nm_council_0 : decode mi_Nm_council.2.1 0 = .ok (.iload_n 1, 1) := by decide +kernel
theorem dk_Nm_council_1 : decode mi_Nm_council.2.1 1 = .ok (.iconst 0, 1) := by decide +kernel
theorem dk_Nm_council_2 : decode mi_Nm_council.2.1 2 = .ok (.iconst 2, 1) := by decide +kernel
theorem dk_Nm_council_3 : decode mi_Nm_council.2.1 3 = .ok (.invokestatic 144, 3) := by decide +kernel
theorem dk_Nm_council_6 : decode mi_Nm_council.2.1 6 = .ok (.ifCond .ne 10, 3) := by decide +kernel
theorem dk_Nm_council_9 : decode mi_Nm_council.2.1 9 = .ok (.aload_n 0, 1) := by decide +kernel
theorem dk_Nm_council_10 : decode mi_Nm_council.2.1 10 = .ok (.bipush (-6), 2) := by decide +kernel
theorem dk_Nm_council_12 : decode mi_Nm_council.2.1 12 = .ok (.invokevirtual 73, 3) := by decide +kernel
theorem dk_Nm_council_15 : decode mi_Nm_council.2.1 15 = .ok (.ireturn, 1) := by decide +kernel
theorem dk_Nm_council_16 : decode mi_Nm_council.2.1 16 = .ok (.iload_n 2, 1) := by decide +kernel
theorem dk_Nm_council_17 : decode mi_Nm_council.2.1 17 = .ok (.iconst (-1), 1) := by decide +kernel
theorem dk_Nm_council_18 : decode mi_Nm_council.2.1 18 = .ok (.if_icmp .eq 21, 3) := by decide +kernel
theorem dk_Nm_council_21 : decode mi_Nm_council.2.1 21 = .ok (.iload_n 2, 1) := by decide +kernel
theorem dk_Nm_council_22 : decode mi_Nm_council.2.1 22 = .ok (.iconst 0, 1) := by decide +kernel
theorem dk_Nm_council_23 : decode mi_Nm_council.2.1 23 = .ok (.iload_n 1, 1) := by decide +kernel
theorem dk_Nm_council_24 : decode mi_Nm_council.2.1 24 = .ok (.iconst 1, 1) := by decide +kernel
theorem dk_Nm_council_25 : decode mi_Nm_council.2.1 25 = .ok (.isub, 1) := by decide +kernel
theorem dk_Nm_council_26 : decode mi_Nm_council.2.1 26 = .ok (.invokestatic 144, 3) := by decide +kernel
theorem dk_Nm_council_29 : decode mi_Nm_council.2.1 29 = .ok (.ifCond .ne 10, 3) := by decide +kernel
theorem dk_Nm_council_32 : decode mi_Nm_council.2.1 32 = .ok (.aload_n 0, 1) := by decide +kernel
theorem dk_Nm_council_33 : decode mi_Nm_council.2.1 33 = .ok (.bipush (-5), 2) := by decide +kernel
theorem dk_Nm_council_35 : decode mi_Nm_council.2.1 35 = .ok (.invokevirtual 73, 3) := by decide +kernel
theorem dk_Nm_council_38 : decode mi_Nm_council.2.1 38 = .ok (.ireturn, 1) := by decide +kernel
theorem dk_Nm_council_39 : decode mi_Nm_council.2.1 39 = .ok (.aload_n 0, 1) := by decide +kernel
theorem dk_Nm_council_40 : decode mi_Nm_council.2.1 40 = .ok (.getfield 38, 3) := by decide +kernel
theorem dk_Nm_council_43 : decode mi_Nm_council.2.1 43 = .ok (.aload_n 0, 1) := by decide +kernel
theorem dk_Nm_council_44 : decode mi_Nm_council.2.1 44 = .ok (.getfield 18, 3) := by decide +kernel
theorem dk_Nm_council_47 : decode mi_Nm_council.2.1 47 = .ok (.iload_n 1, 1) := by decide +kernel
theorem dk_Nm_council_48 : decode mi_Nm_council.2.1 48 = .ok (.aload_n 0, 1) := by decide +kernel
theorem dk_Nm_council_49 : decode mi_Nm_council.2.1 49 = .ok (.getfield 31, 3) := by decide +kernel
theorem dk_Nm_council_52 : decode mi_Nm_council.2.1 52 = .ok (.invokevirtual 245, 3) := by decide +kernel
theorem dk_Nm_council_55 : decode mi_Nm_council.2.1 55 = .ok (.iload_n 2, 1) := by decide +kernel
theorem dk_Nm_council_56 : decode mi_Nm_council.2.1 56 = .ok (.iconst (-1), 1) := by decide +kernel
theorem dk_Nm_council_57 : decode mi_Nm_council.2.1 57 = .ok (.if_icmp .ne 13, 3) := by decide +kernel
theorem dk_Nm_council_60 : decode mi_Nm_council.2.1 60 = .ok (.aload_n 0, 1) := by decide +kernel
theorem dk_Nm_council_61 : decode mi_Nm_council.2.1 61 = .ok (.getfield 38, 3) := by decide +kernel
theorem dk_Nm_council_64 : decode mi_Nm_council.2.1 64 = .ok (.getfield 249, 3) := by decide +kernel
theorem dk_Nm_council_67 : decode mi_Nm_council.2.1 67 = .ok (.goto 24, 3) := by decide +kernel
theorem dk_Nm_council_70 : decode mi_Nm_council.2.1 70 = .ok (.iload_n 2, 1) := by decide +kernel
theorem dk_Nm_council_71 : decode mi_Nm_council.2.1 71 = .ok (.ifCond .ne 13, 3) := by decide +kernel
theorem dk_Nm_council_74 : decode mi_Nm_council.2.1 74 = .ok (.aload_n 0, 1) := by decide +kernel
theorem dk_Nm_council_75 : decode mi_Nm_council.2.1 75 = .ok (.getfield 38, 3) := by decide +kernel
theorem dk_Nm_council_78 : decode mi_Nm_council.2.1 78 = .ok (.getfield 252, 3) := by decide +kernel
theorem dk_Nm_council_81 : decode mi_Nm_council.2.1 81 = .ok (.goto 10, 3) := by decide +kernel
theorem dk_Nm_council_84 : decode mi_Nm_council.2.1 84 = .ok (.aload_n 0, 1) := by decide +kernel
theorem dk_Nm_council_85 : decode mi_Nm_council.2.1 85 = .ok (.getfield 38, 3) := by decide +kernel
theorem dk_Nm_council_88 : decode mi_Nm_council.2.1 88 = .ok (.getfield 255, 3) := by decide +kernel
theorem dk_Nm_council_91 : decode mi_Nm_council.2.1 91 = .ok (.ireturn, 1) := by decide +kernel
def Nm_council_j39 (x1 : Int32) (x2 : Int32) (σ : nm_St) : Option (Int32 × nm_St) :=
  ((Co_weigh 2 x1 σ).bind fun q4 =>
  (if x2 = (-1 : Int32) then
    some ((q4.2.1 27 2), q4.2)
  else
    (if x2 = 0 then
      some ((q4.2.1 27 3), q4.2)
    else
      some ((q4.2.1 27 4), q4.2))))
set_option maxRecDepth 100000 in
set_option maxHeartbeats 4000000 in
theorem r_Nm_council_j39 (X : nm_X) (F : nm_F) (hF0 : 6 ≤ nm_d F) (x1 : Int32) (x2 : Int32) (σ : nm_St) : Rn X mi_Nm_council F (nm_Qf X F nm_wI) [(0, .ref 0), (1, .int x1), (2, .int x2)] [] 39 σ (Nm_council_j39 x1 x2 σ) := by
  unfold Nm_council_j39
  refine rn_aload_n (pc := 39) 0 dk_Nm_council_39 rfl rfl rfl ?_
  refine gf_Nm_38 (pc := 40) rfl dk_Nm_council_40 ?_
  refine rn_aload_n (pc := 43) 0 dk_Nm_council_43 rfl rfl rfl ?_
  refine gf_Nm_18 (pc := 44) rfl dk_Nm_council_44 ?_
  refine rn_iload_n (pc := 47) 1 dk_Nm_council_47 rfl rfl ?_
  refine rn_aload_n (pc := 48) 0 dk_Nm_council_48 rfl rfl rfl ?_
  refine gf_Nm_31 (pc := 49) rfl dk_Nm_council_49 ?_
  refine cl_Nm_245 (pc := 52) (As := [.ref 2, .int x1, .ref 23]) (st := []) rfl (ct_Co_weigh X 2 rfl x1 σ) (Nat.le_trans (Nat.le_of_ble_eq_true rfl) hF0) rfl rfl (Nat.le_of_ble_eq_true rfl) dk_Nm_council_52 (fun q4 => ?_)
  refine rn_iload_n (pc := 55) 2 dk_Nm_council_55 rfl rfl ?_
  refine rn_iconst (pc := 56) (-1 : Int32) dk_Nm_council_56 cn_i_m1 ?_
  refine rn_icmp_ne (pc := 57) 70 dk_Nm_council_57 (by decide) (fun c5 => ?_) (fun c5 => ?_)
  · refine rn_iload_n (pc := 70) 2 dk_Nm_council_70 rfl rfl ?_
    refine rn_if_ne (pc := 71) 84 dk_Nm_council_71 (by decide) (fun c6 => ?_) (fun c6 => ?_)
    · refine rn_aload_n (pc := 84) 0 dk_Nm_council_84 rfl rfl rfl ?_
      refine gf_Nm_38 (pc := 85) rfl dk_Nm_council_85 ?_
      refine gf_Nm_255 (pc := 88) rfl dk_Nm_council_88 ?_
      exact rn_iret rfl dk_Nm_council_91
    · refine rn_aload_n (pc := 74) 0 dk_Nm_council_74 rfl rfl rfl ?_
      refine gf_Nm_38 (pc := 75) rfl dk_Nm_council_75 ?_
      refine gf_Nm_252 (pc := 78) rfl dk_Nm_council_78 ?_
      refine rn_goto (pc := 81) 91 dk_Nm_council_81 (by decide) ?_
      exact rn_iret rfl dk_Nm_council_91
  · refine rn_aload_n (pc := 60) 0 dk_Nm_council_60 rfl rfl rfl ?_
    refine gf_Nm_38 (pc := 61) rfl dk_Nm_council_61 ?_
    refine gf_Nm_249 (pc := 64) rfl dk_Nm_council_64 ?_
    refine rn_goto (pc := 67) 91 dk_Nm_council_67 (by decide) ?_
    exact rn_iret rfl dk_Nm_council_91
def Nm_council (p1 : Int32) (p2 : Int32) (σ : nm_St) : Option (Int32 × nm_St) :=
  ((Nm_isWithin p1 (0 : Int32) (2 : Int32) σ).bind fun q1 =>
  (if q1.1 = 0 then
    ((Nm_refuse (-6 : Int32) q1.2).bind fun q10 =>
    some (q10.1, q10.2))
  else
    (if p2 = (-1 : Int32) then
      Nm_council_j39 p1 p2 q1.2
    else
      ((Nm_isWithin p2 (0 : Int32) (p1 - (1 : Int32)) q1.2).bind fun q7 =>
      (if q7.1 = 0 then
        ((Nm_refuse (-5 : Int32) q7.2).bind fun q9 =>
        some (q9.1, q9.2))
      else
        Nm_council_j39 p1 p2 q7.2)))))
set_option maxRecDepth 100000 in
set_option maxHeartbeats 4000000 in
theorem ct_Nm_council (X : nm_X) (p1 : Int32) (p2 : Int32) (σ : nm_St) : Ct X mi_Nm_council 6 nm_wI [.ref 0, .int p1, .int p2] σ (Nm_council p1 p2 σ) := by
  refine Ct.of (by decide +kernel) rfl (fun F hF0 => ?_)
  unfold Nm_council
  refine rn_iload_n (pc := 0) 1 dk_Nm_council_0 rfl rfl ?_
  refine rn_iconst (pc := 1) (0 : Int32) dk_Nm_council_1 cn_i_0 ?_
  refine rn_iconst (pc := 2) (2 : Int32) dk_Nm_council_2 cn_i_2 ?_
  refine cl_Nm_144 (pc := 3) (As := [.int p1, .int (0 : Int32), .int (2 : Int32)]) (st := []) rfl (ct_Nm_isWithin X p1 (0 : Int32) (2 : Int32) σ) (Nat.le_trans (Nat.le_of_ble_eq_true rfl) hF0) rfl rfl (Nat.le_of_ble_eq_true rfl) dk_Nm_council_3 (fun q1 => ?_)
  refine rn_if_ne (pc := 6) 16 dk_Nm_council_6 (by decide) (fun c2 => ?_) (fun c2 => ?_)
  · refine rn_iload_n (pc := 16) 2 dk_Nm_council_16 rfl rfl ?_
    refine rn_iconst (pc := 17) (-1 : Int32) dk_Nm_council_17 cn_i_m1 ?_
    refine rn_icmp_eq (pc := 18) 39 dk_Nm_council_18 (by decide) (fun c3 => ?_) (fun c3 => ?_)
    · exact rn_sub (by rfl) (r_Nm_council_j39 X F hF0 p1 p2 q1.2)
    · refine rn_iload_n (pc := 21) 2 dk_Nm_council_21 rfl rfl ?_
      refine rn_iconst (pc := 22) (0 : Int32) dk_Nm_council_22 cn_i_0 ?_
      refine rn_iload_n (pc := 23) 1 dk_Nm_council_23 rfl rfl ?_
      refine rn_iconst (pc := 24) (1 : Int32) dk_Nm_council_24 cn_i_1 ?_
      refine rn_isub (pc := 25) dk_Nm_council_25 ?_
      refine cl_Nm_144 (pc := 26) (As := [.int p2, .int (0 : Int32), .int (p1 - (1 : Int32))]) (st := []) rfl (ct_Nm_isWithin X p2 (0 : Int32) (p1 - (1 : Int32)) q1.2) (Nat.le_trans (Nat.le_of_ble_eq_true rfl) hF0) rfl rfl (Nat.le_of_ble_eq_true rfl) dk_Nm_council_26 (fun q7 => ?_)
      refine rn_if_ne (pc := 29) 39 dk_Nm_council_29 (by decide) (fun c8 => ?_) (fun c8 => ?_)
      · exact rn_sub (by rfl) (r_Nm_council_j39 X F hF0 p1 p2 q7.2)
      · refine rn_aload_n (pc := 32) 0 dk_Nm_council_32 rfl rfl rfl ?_
        refine rn_bipush (pc := 33) (-5 : Int32) dk_Nm_council_33 cn_b_m5 ?_
        refine cl_Nm_73 (pc := 35) (As := [.int (-5 : Int32)]) (st := []) rfl (ct_Nm_refuse X (-5 : Int32) q7.2) (Nat.le_trans (Nat.le_of_ble_eq_true rfl) hF0) rfl rfl (Nat.le_of_ble_eq_true rfl) dk_Nm_council_35 (fun q9 => ?_)
        exact rn_iret rfl dk_Nm_council_38
  · refine rn_aload_n (pc := 9) 0 dk_Nm_council_9 rfl rfl rfl ?_
    refine rn_bipush (pc := 10) (-6 : Int32) dk_Nm_council_10 cn_b_m6 ?_
    refine cl_Nm_73 (pc := 12) (As := [.int (-6 : Int32)]) (st := []) rfl (ct_Nm_refuse X (-6 : Int32) q1.2) (Nat.le_trans (Nat.le_of_ble_eq_true rfl) hF0) rfl rfl (Nat.le_of_ble_eq_true rfl) dk_Nm_council_12 (fun q10 => ?_)
    exact rn_iret rfl dk_Nm_council_15
theorem dk_Nm_checkFirst_0 : decode mi_Nm_checkFirst.2.1 0 = .ok (.aload_n 0, 1) := by decide +kernel
theorem dk_Nm_checkFirst_1 : decode mi_Nm_checkFirst.2.1 1 = .ok (.iload_n 1, 1) := by decide +kernel
theorem dk_Nm_checkFirst_2 : decode mi_Nm_checkFirst.2.1 2 = .ok (.invokevirtual 81, 3) := by decide +kernel
theorem dk_Nm_checkFirst_5 : decode mi_Nm_checkFirst.2.1 5 = .ok (.istore_n 3, 1) := by decide +kernel
theorem dk_Nm_checkFirst_6 : decode mi_Nm_checkFirst.2.1 6 = .ok (.iload_n 3, 1) := by decide +kernel
theorem dk_Nm_checkFirst_7 : decode mi_Nm_checkFirst.2.1 7 = .ok (.ifCond .eq 5, 3) := by decide +kernel
theorem dk_Nm_checkFirst_10 : decode mi_Nm_checkFirst.2.1 10 = .ok (.iload_n 3, 1) := by decide +kernel
theorem dk_Nm_checkFirst_11 : decode mi_Nm_checkFirst.2.1 11 = .ok (.ireturn, 1) := by decide +kernel
theorem dk_Nm_checkFirst_12 : decode mi_Nm_checkFirst.2.1 12 = .ok (.iload_n 2, 1) := by decide +kernel
theorem dk_Nm_checkFirst_13 : decode mi_Nm_checkFirst.2.1 13 = .ok (.ifCond .ge 6, 3) := by decide +kernel
theorem dk_Nm_checkFirst_16 : decode mi_Nm_checkFirst.2.1 16 = .ok (.bipush (-4), 2) := by decide +kernel
theorem dk_Nm_checkFirst_18 : decode mi_Nm_checkFirst.2.1 18 = .ok (.ireturn, 1) := by decide +kernel
theorem dk_Nm_checkFirst_19 : decode mi_Nm_checkFirst.2.1 19 = .ok (.iload_n 2, 1) := by decide +kernel
theorem dk_Nm_checkFirst_20 : decode mi_Nm_checkFirst.2.1 20 = .ok (.aload_n 0, 1) := by decide +kernel
theorem dk_Nm_checkFirst_21 : decode mi_Nm_checkFirst.2.1 21 = .ok (.getfield 11, 3) := by decide +kernel
theorem dk_Nm_checkFirst_24 : decode mi_Nm_checkFirst.2.1 24 = .ok (.iload_n 1, 1) := by decide +kernel
theorem dk_Nm_checkFirst_25 : decode mi_Nm_checkFirst.2.1 25 = .ok (.aaload, 1) := by decide +kernel
theorem dk_Nm_checkFirst_26 : decode mi_Nm_checkFirst.2.1 26 = .ok (.getfield 272, 3) := by decide +kernel
theorem dk_Nm_checkFirst_29 : decode mi_Nm_checkFirst.2.1 29 = .ok (.if_icmp .le 8, 3) := by decide +kernel
theorem dk_Nm_checkFirst_32 : decode mi_Nm_checkFirst.2.1 32 = .ok (.bipush (-5), 2) := by decide +kernel
theorem dk_Nm_checkFirst_34 : decode mi_Nm_checkFirst.2.1 34 = .ok (.goto 4, 3) := by decide +kernel
theorem dk_Nm_checkFirst_37 : decode mi_Nm_checkFirst.2.1 37 = .ok (.iconst 0, 1) := by decide +kernel
theorem dk_Nm_checkFirst_38 : decode mi_Nm_checkFirst.2.1 38 = .ok (.ireturn, 1) := by decide +kernel
def Nm_checkFirst (p1 : Int32) (p2 : Int32) (σ : nm_St) : Option (Int32 × nm_St) :=
  ((Nm_checkRow p1 σ).bind fun q1 =>
  (if q1.1 = 0 then
    (if 0 ≤ p2 then
      (nm_g (nm_in p1 8) (
      (if p2 ≤ (q1.2.1 (nm_sf p1) 3) then
        some ((0 : Int32), q1.2)
      else
        some ((-5 : Int32), q1.2))))
    else
      some ((-4 : Int32), q1.2))
  else
    some (q1.1, q1.2)))
set_option maxRecDepth 100000 in
set_option maxHeartbeats 4000000 in
theorem ct_Nm_checkFirst (X : nm_X) (p1 : Int32) (p2 : Int32) (σ : nm_St) : Ct X mi_Nm_checkFirst 2 nm_wI [.ref 0, .int p1, .int p2] σ (Nm_checkFirst p1 p2 σ) := by
  refine Ct.of (by decide +kernel) rfl (fun F hF0 => ?_)
  unfold Nm_checkFirst
  refine rn_aload_n (pc := 0) 0 dk_Nm_checkFirst_0 rfl rfl rfl ?_
  refine rn_iload_n (pc := 1) 1 dk_Nm_checkFirst_1 rfl rfl ?_
  refine cl_Nm_81 (pc := 2) (As := [.int p1]) (st := []) rfl (ct_Nm_checkRow X p1 σ) (Nat.le_trans (Nat.le_of_ble_eq_true rfl) hF0) rfl rfl (Nat.le_of_ble_eq_true rfl) dk_Nm_checkFirst_2 (fun q1 => ?_)
  refine rn_istore_n (pc := 5) 3 dk_Nm_checkFirst_5 rfl rfl rfl ?_
  refine rn_iload_n (pc := 6) 3 dk_Nm_checkFirst_6 rfl rfl ?_
  refine rn_if_eq (pc := 7) 12 dk_Nm_checkFirst_7 (by decide) (fun c2 => ?_) (fun c2 => ?_)
  · refine rn_iload_n (pc := 12) 2 dk_Nm_checkFirst_12 rfl rfl ?_
    refine rn_if_ge (pc := 13) 19 dk_Nm_checkFirst_13 (by decide) (fun c3 => ?_) (fun c3 => ?_)
    · refine rn_iload_n (pc := 19) 2 dk_Nm_checkFirst_19 rfl rfl ?_
      refine rn_aload_n (pc := 20) 0 dk_Nm_checkFirst_20 rfl rfl rfl ?_
      refine gf_Nm_11 (pc := 21) rfl dk_Nm_checkFirst_21 ?_
      refine rn_iload_n (pc := 24) 1 dk_Nm_checkFirst_24 rfl rfl ?_
      refine rn_aaload (pc := 25) dk_Nm_checkFirst_25 (fun g4 => ?_)
      refine gf_Nm_272 (pc := 26) (nm_sf p1) (nm_sf_isH g4) rfl dk_Nm_checkFirst_26 ?_
      refine rn_icmp_le (pc := 29) 37 dk_Nm_checkFirst_29 (by decide) (fun c5 => ?_) (fun c5 => ?_)
      · refine rn_iconst (pc := 37) (0 : Int32) dk_Nm_checkFirst_37 cn_i_0 ?_
        exact rn_iret rfl dk_Nm_checkFirst_38
      · refine rn_bipush (pc := 32) (-5 : Int32) dk_Nm_checkFirst_32 cn_b_m5 ?_
        refine rn_goto (pc := 34) 38 dk_Nm_checkFirst_34 (by decide) ?_
        exact rn_iret rfl dk_Nm_checkFirst_38
    · refine rn_bipush (pc := 16) (-4 : Int32) dk_Nm_checkFirst_16 cn_b_m4 ?_
      exact rn_iret rfl dk_Nm_checkFirst_18
  · refine rn_iload_n (pc := 10) 3 dk_Nm_checkFirst_10 rfl rfl ?_
    exact rn_iret rfl dk_Nm_checkFirst_11
theorem dk_Sh_areWithin_0 : decode mi_Sh_areWithin.2.1 0 = .ok (.iconst 0, 1) := by decide +kernel
theorem dk_Sh_areWithin_1 : decode mi_Sh_areWithin.2.1 1 = .ok (.istore 4, 2) := by decide +kernel
theorem dk_Sh_areWithin_3 : decode mi_Sh_areWithin.2.1 3 = .ok (.iload 4, 2) := by decide +kernel
theorem dk_Sh_areWithin_5 : decode mi_Sh_areWithin.2.1 5 = .ok (.iload_n 1, 1) := by decide +kernel
theorem dk_Sh_areWithin_6 : decode mi_Sh_areWithin.2.1 6 = .ok (.if_icmp .ge 25, 3) := by decide +kernel
theorem dk_Sh_areWithin_9 : decode mi_Sh_areWithin.2.1 9 = .ok (.aload_n 0, 1) := by decide +kernel
theorem dk_Sh_areWithin_10 : decode mi_Sh_areWithin.2.1 10 = .ok (.iload 4, 2) := by decide +kernel
theorem dk_Sh_areWithin_12 : decode mi_Sh_areWithin.2.1 12 = .ok (.invokevirtual 51, 3) := by decide +kernel
theorem dk_Sh_areWithin_15 : decode mi_Sh_areWithin.2.1 15 = .ok (.iload_n 2, 1) := by decide +kernel
theorem dk_Sh_areWithin_16 : decode mi_Sh_areWithin.2.1 16 = .ok (.iload_n 3, 1) := by decide +kernel
theorem dk_Sh_areWithin_17 : decode mi_Sh_areWithin.2.1 17 = .ok (.invokestatic 55, 3) := by decide +kernel
theorem dk_Sh_areWithin_20 : decode mi_Sh_areWithin.2.1 20 = .ok (.ifCond .ne 5, 3) := by decide +kernel
theorem dk_Sh_areWithin_23 : decode mi_Sh_areWithin.2.1 23 = .ok (.iconst 0, 1) := by decide +kernel
theorem dk_Sh_areWithin_24 : decode mi_Sh_areWithin.2.1 24 = .ok (.ireturn, 1) := by decide +kernel
theorem dk_Sh_areWithin_25 : decode mi_Sh_areWithin.2.1 25 = .ok (.iinc 4 1, 3) := by decide +kernel
theorem dk_Sh_areWithin_28 : decode mi_Sh_areWithin.2.1 28 = .ok (.goto (-25), 3) := by decide +kernel
theorem dk_Sh_areWithin_31 : decode mi_Sh_areWithin.2.1 31 = .ok (.iconst 1, 1) := by decide +kernel
theorem dk_Sh_areWithin_32 : decode mi_Sh_areWithin.2.1 32 = .ok (.ireturn, 1) := by decide +kernel
def Sh_areWithin_l3 (o : Nat) (k_31 : nm_St → Option (Int32 × nm_St)) : Nat → Int32 → Int32 → Int32 → Int32 → nm_St → Option (Int32 × nm_St)
  | 0, _, _, _, _, _ => none
  | n + 1, x1, x2, x3, x4, σ =>
    (if x1 ≤ x4 then
      k_31 σ
    else
      ((Sh_number o x4 σ).bind fun q2 =>
      ((Nm_isWithin q2.1 x2 x3 q2.2).bind fun q3 =>
      (if q3.1 = 0 then
        some ((0 : Int32), q3.2)
      else
        (Sh_areWithin_l3 o k_31 n) x1 x2 x3 (x4 + (1 : Int32)) q3.2))))
set_option maxRecDepth 100000 in
set_option maxHeartbeats 4000000 in
theorem r_Sh_areWithin_l3 (X : nm_X) (F : nm_F) (hF0 : 1 ≤ nm_d F) (o : Nat) (ho : nm_isH o = true) (k_31 : nm_St → Option (Int32 × nm_St)) (hk_31 : ∀ (σ : nm_St), Rn X mi_Sh_areWithin F (nm_Qf X F nm_wI) [] [] 31 σ (k_31 σ)) : ∀ (n : Nat) (x1 : Int32) (x2 : Int32) (x3 : Int32) (x4 : Int32) (σ : nm_St), Rn X mi_Sh_areWithin F (nm_Qf X F nm_wI) [(0, .ref o), (1, .int x1), (2, .int x2), (3, .int x3), (4, .int x4)] [] 3 σ (Sh_areWithin_l3 o k_31 n x1 x2 x3 x4 σ) := by
  intro n
  induction n with
  | zero =>
    intro x1 x2 x3 x4 σ
    exact rn_none
  | succ n ih =>
    intro x1 x2 x3 x4 σ
    unfold Sh_areWithin_l3
    refine rn_iload (pc := 3) dk_Sh_areWithin_3 rfl ?_
    refine rn_iload_n (pc := 5) 1 dk_Sh_areWithin_5 rfl rfl ?_
    refine rn_icmp_ge (pc := 6) 31 dk_Sh_areWithin_6 (by decide) (fun c1 => ?_) (fun c1 => ?_)
    · exact rn_sub (by rfl) (hk_31 σ)
    · refine rn_aload_n (pc := 9) 0 dk_Sh_areWithin_9 rfl rfl (nm_rok_isH ho) ?_
      refine rn_iload (pc := 10) dk_Sh_areWithin_10 rfl ?_
      refine cl_Sh_51 (pc := 12) (As := [.int x4]) (st := []) o ho rfl (ct_Sh_number X o ho x4 σ) (Nat.le_trans (Nat.le_of_ble_eq_true rfl) hF0) rfl rfl (Nat.le_of_ble_eq_true rfl) dk_Sh_areWithin_12 (fun q2 => ?_)
      refine rn_iload_n (pc := 15) 2 dk_Sh_areWithin_15 rfl rfl ?_
      refine rn_iload_n (pc := 16) 3 dk_Sh_areWithin_16 rfl rfl ?_
      refine cl_Sh_55 (pc := 17) (As := [.int q2.1, .int x2, .int x3]) (st := []) rfl (ct_Nm_isWithin X q2.1 x2 x3 q2.2) (Nat.le_trans (Nat.le_of_ble_eq_true rfl) hF0) rfl rfl (Nat.le_of_ble_eq_true rfl) dk_Sh_areWithin_17 (fun q3 => ?_)
      refine rn_if_ne (pc := 20) 25 dk_Sh_areWithin_20 (by decide) (fun c4 => ?_) (fun c4 => ?_)
      · refine rn_iinc (pc := 25) (1 : Int32) dk_Sh_areWithin_25 cn_i_1 rfl rfl rfl ?_
        refine rn_goto (pc := 28) 3 dk_Sh_areWithin_28 (by decide) ?_
        exact rn_sub (by rfl) (ih x1 x2 x3 (x4 + (1 : Int32)) q3.2)
      · refine rn_iconst (pc := 23) (0 : Int32) dk_Sh_areWithin_23 cn_i_0 ?_
        exact rn_zret (ty := .boolean) rfl rfl dk_Sh_areWithin_24
def Sh_areWithin (o : Nat) (p1 : Int32) (p2 : Int32) (p3 : Int32) (σ : nm_St) : Option (Int32 × nm_St) :=
  Sh_areWithin_l3 o (fun (s5 : nm_St) =>
    some ((1 : Int32), s5)) 400 p1 p2 p3 (0 : Int32) σ
set_option maxRecDepth 100000 in
set_option maxHeartbeats 4000000 in
theorem ct_Sh_areWithin (X : nm_X) (o : Nat) (ho : nm_isH o = true) (p1 : Int32) (p2 : Int32) (p3 : Int32) (σ : nm_St) : Ct X mi_Sh_areWithin 1 nm_wI [.ref o, .int p1, .int p2, .int p3] σ (Sh_areWithin o p1 p2 p3 σ) := by
  refine Ct.of (by decide +kernel) rfl (fun F hF0 => ?_)
  unfold Sh_areWithin
  refine rn_iconst (pc := 0) (0 : Int32) dk_Sh_areWithin_0 cn_i_0 ?_
  refine rn_istore (pc := 1) dk_Sh_areWithin_1 rfl rfl ?_
  refine rn_sub (by rfl) (r_Sh_areWithin_l3 X F hF0 o ho _ (fun s5 => ?_) 400 p1 p2 p3 (0 : Int32) σ)
  refine rn_iconst (pc := 31) (1 : Int32) dk_Sh_areWithin_31 cn_i_1 ?_
  exact rn_zret (ty := .boolean) rfl rfl dk_Sh_areWithin_32
theorem dk_Nm_isLetter_0 : decode mi_Nm_isLetter.2.1 0 = .ok (.iload_n 1, 1) := by decide +kernel
theorem dk_Nm_isLetter_1 : decode mi_Nm_isLetter.2.1 1 = .ok (.bipush 40, 2) := by decide +kernel
theorem dk_Nm_isLetter_3 : decode mi_Nm_isLetter.2.1 3 = .ok (.if_icmp .gt 18, 3) := by decide +kernel
theorem dk_Nm_isLetter_6 : decode mi_Nm_isLetter.2.1 6 = .ok (.aload_n 0, 1) := by decide +kernel
theorem dk_Nm_isLetter_7 : decode mi_Nm_isLetter.2.1 7 = .ok (.iload_n 1, 1) := by decide +kernel
theorem dk_Nm_isLetter_8 : decode mi_Nm_isLetter.2.1 8 = .ok (.iconst 0, 1) := by decide +kernel
theorem dk_Nm_isLetter_9 : decode mi_Nm_isLetter.2.1 9 = .ok (.bipush 7, 2) := by decide +kernel
theorem dk_Nm_isLetter_11 : decode mi_Nm_isLetter.2.1 11 = .ok (.invokevirtual 354, 3) := by decide +kernel
theorem dk_Nm_isLetter_14 : decode mi_Nm_isLetter.2.1 14 = .ok (.ifCond .eq 7, 3) := by decide +kernel
theorem dk_Nm_isLetter_17 : decode mi_Nm_isLetter.2.1 17 = .ok (.iconst 1, 1) := by decide +kernel
theorem dk_Nm_isLetter_18 : decode mi_Nm_isLetter.2.1 18 = .ok (.goto 4, 3) := by decide +kernel
theorem dk_Nm_isLetter_21 : decode mi_Nm_isLetter.2.1 21 = .ok (.iconst 0, 1) := by decide +kernel
theorem dk_Nm_isLetter_22 : decode mi_Nm_isLetter.2.1 22 = .ok (.ireturn, 1) := by decide +kernel
def Nm_isLetter (o0 : Nat) (p1 : Int32) (σ : nm_St) : Option (Int32 × nm_St) :=
  (if (40 : Int32) < p1 then
    some ((0 : Int32), σ)
  else
    ((Sh_areWithin o0 p1 (0 : Int32) (7 : Int32) σ).bind fun q2 =>
    (if q2.1 = 0 then
      some ((0 : Int32), q2.2)
    else
      some ((1 : Int32), q2.2))))
set_option maxRecDepth 100000 in
set_option maxHeartbeats 4000000 in
theorem ct_Nm_isLetter (X : nm_X) (o0 : Nat) (ho0 : nm_isH o0 = true) (p1 : Int32) (σ : nm_St) : Ct X mi_Nm_isLetter 2 nm_wI [.ref o0, .int p1] σ (Nm_isLetter o0 p1 σ) := by
  refine Ct.of (by decide +kernel) rfl (fun F hF0 => ?_)
  unfold Nm_isLetter
  refine rn_iload_n (pc := 0) 1 dk_Nm_isLetter_0 rfl rfl ?_
  refine rn_bipush (pc := 1) (40 : Int32) dk_Nm_isLetter_1 cn_b_40 ?_
  refine rn_icmp_gt (pc := 3) 21 dk_Nm_isLetter_3 (by decide) (fun c1 => ?_) (fun c1 => ?_)
  · refine rn_iconst (pc := 21) (0 : Int32) dk_Nm_isLetter_21 cn_i_0 ?_
    exact rn_zret (ty := .boolean) rfl rfl dk_Nm_isLetter_22
  · refine rn_aload_n (pc := 6) 0 dk_Nm_isLetter_6 rfl rfl (nm_rok_isH ho0) ?_
    refine rn_iload_n (pc := 7) 1 dk_Nm_isLetter_7 rfl rfl ?_
    refine rn_iconst (pc := 8) (0 : Int32) dk_Nm_isLetter_8 cn_i_0 ?_
    refine rn_bipush (pc := 9) (7 : Int32) dk_Nm_isLetter_9 cn_b_7 ?_
    refine cl_Nm_354 (pc := 11) (As := [.int p1, .int (0 : Int32), .int (7 : Int32)]) (st := []) o0 ho0 rfl (ct_Sh_areWithin X o0 ho0 p1 (0 : Int32) (7 : Int32) σ) (Nat.le_trans (Nat.le_of_ble_eq_true rfl) hF0) rfl rfl (Nat.le_of_ble_eq_true rfl) dk_Nm_isLetter_11 (fun q2 => ?_)
    refine rn_if_eq (pc := 14) 21 dk_Nm_isLetter_14 (by decide) (fun c3 => ?_) (fun c3 => ?_)
    · refine rn_iconst (pc := 21) (0 : Int32) dk_Nm_isLetter_21 cn_i_0 ?_
      exact rn_zret (ty := .boolean) rfl rfl dk_Nm_isLetter_22
    · refine rn_iconst (pc := 17) (1 : Int32) dk_Nm_isLetter_17 cn_i_1 ?_
      refine rn_goto (pc := 18) 22 dk_Nm_isLetter_18 (by decide) ?_
      exact rn_zret (ty := .boolean) rfl rfl dk_Nm_isLetter_22
theorem dk_Nm_partsTold_0 : decode mi_Nm_partsTold.2.1 0 = .ok (.iconst 0, 1) := by decide +kernel
theorem dk_Nm_partsTold_1 : decode mi_Nm_partsTold.2.1 1 = .ok (.istore 4, 2) := by decide +kernel
theorem dk_Nm_partsTold_3 : decode mi_Nm_partsTold.2.1 3 = .ok (.iconst 0, 1) := by decide +kernel
theorem dk_Nm_partsTold_4 : decode mi_Nm_partsTold.2.1 4 = .ok (.istore 5, 2) := by decide +kernel
theorem dk_Nm_partsTold_6 : decode mi_Nm_partsTold.2.1 6 = .ok (.iload 5, 2) := by decide +kernel
theorem dk_Nm_partsTold_8 : decode mi_Nm_partsTold.2.1 8 = .ok (.iload_n 2, 1) := by decide +kernel
theorem dk_Nm_partsTold_9 : decode mi_Nm_partsTold.2.1 9 = .ok (.if_icmp .ge 43, 3) := by decide +kernel
theorem dk_Nm_partsTold_12 : decode mi_Nm_partsTold.2.1 12 = .ok (.aload_n 1, 1) := by decide +kernel
theorem dk_Nm_partsTold_13 : decode mi_Nm_partsTold.2.1 13 = .ok (.iload 5, 2) := by decide +kernel
theorem dk_Nm_partsTold_15 : decode mi_Nm_partsTold.2.1 15 = .ok (.invokevirtual 357, 3) := by decide +kernel
theorem dk_Nm_partsTold_18 : decode mi_Nm_partsTold.2.1 18 = .ok (.iload_n 3, 1) := by decide +kernel
theorem dk_Nm_partsTold_19 : decode mi_Nm_partsTold.2.1 19 = .ok (.iadd, 1) := by decide +kernel
theorem dk_Nm_partsTold_20 : decode mi_Nm_partsTold.2.1 20 = .ok (.bipush 7, 2) := by decide +kernel
theorem dk_Nm_partsTold_22 : decode mi_Nm_partsTold.2.1 22 = .ok (.iand, 1) := by decide +kernel
theorem dk_Nm_partsTold_23 : decode mi_Nm_partsTold.2.1 23 = .ok (.istore 6, 2) := by decide +kernel
theorem dk_Nm_partsTold_25 : decode mi_Nm_partsTold.2.1 25 = .ok (.aload_n 0, 1) := by decide +kernel
theorem dk_Nm_partsTold_26 : decode mi_Nm_partsTold.2.1 26 = .ok (.getfield 18, 3) := by decide +kernel
theorem dk_Nm_partsTold_29 : decode mi_Nm_partsTold.2.1 29 = .ok (.iload 6, 2) := by decide +kernel
theorem dk_Nm_partsTold_31 : decode mi_Nm_partsTold.2.1 31 = .ok (.invokevirtual 158, 3) := by decide +kernel
theorem dk_Nm_partsTold_34 : decode mi_Nm_partsTold.2.1 34 = .ok (.ifCond .eq 12, 3) := by decide +kernel
theorem dk_Nm_partsTold_37 : decode mi_Nm_partsTold.2.1 37 = .ok (.iload 4, 2) := by decide +kernel
theorem dk_Nm_partsTold_39 : decode mi_Nm_partsTold.2.1 39 = .ok (.iconst 1, 1) := by decide +kernel
theorem dk_Nm_partsTold_40 : decode mi_Nm_partsTold.2.1 40 = .ok (.iload 6, 2) := by decide +kernel
theorem dk_Nm_partsTold_42 : decode mi_Nm_partsTold.2.1 42 = .ok (.ishl, 1) := by decide +kernel
theorem dk_Nm_partsTold_43 : decode mi_Nm_partsTold.2.1 43 = .ok (.ior, 1) := by decide +kernel
theorem dk_Nm_partsTold_44 : decode mi_Nm_partsTold.2.1 44 = .ok (.istore 4, 2) := by decide +kernel
theorem dk_Nm_partsTold_46 : decode mi_Nm_partsTold.2.1 46 = .ok (.iinc 5 1, 3) := by decide +kernel
theorem dk_Nm_partsTold_49 : decode mi_Nm_partsTold.2.1 49 = .ok (.goto (-43), 3) := by decide +kernel
theorem dk_Nm_partsTold_52 : decode mi_Nm_partsTold.2.1 52 = .ok (.iload 4, 2) := by decide +kernel
theorem dk_Nm_partsTold_54 : decode mi_Nm_partsTold.2.1 54 = .ok (.ireturn, 1) := by decide +kernel
def Nm_partsTold_l6 (o1 : Nat) (k_52 : Int32 → nm_St → Option (Int32 × nm_St)) : Nat → Int32 → Int32 → Int32 → Int32 → nm_St → Option (Int32 × nm_St)
  | 0, _, _, _, _, _ => none
  | n + 1, x2, x3, x4, x5, σ =>
    (if x2 ≤ x5 then
      k_52 x4 σ
    else
      ((Sh_number o1 x5 σ).bind fun q2 =>
      (nm_let (((q2.1 + x3) &&& (7 : Int32))) fun v3 =>
      ((Is_isPart 2 v3 q2.2).bind fun q4 =>
      (if q4.1 = 0 then
        (Nm_partsTold_l6 o1 k_52 n) x2 x3 x4 (x5 + (1 : Int32)) q4.2
      else
        (nm_let ((x4 ||| ((1 : Int32) <<< (v3 &&& 31)))) fun v6 =>
        (Nm_partsTold_l6 o1 k_52 n) x2 x3 v6 (x5 + (1 : Int32)) q4.2))))))
set_option maxRecDepth 100000 in
set_option maxHeartbeats 4000000 in
theorem r_Nm_partsTold_l6 (X : nm_X) (F : nm_F) (hF0 : 1 ≤ nm_d F) (o1 : Nat) (ho1 : nm_isH o1 = true) (k_52 : Int32 → nm_St → Option (Int32 × nm_St)) (hk_52 : ∀ (x4 : Int32) (σ : nm_St), Rn X mi_Nm_partsTold F (nm_Qf X F nm_wI) [(4, .int x4)] [] 52 σ (k_52 x4 σ)) : ∀ (n : Nat) (x2 : Int32) (x3 : Int32) (x4 : Int32) (x5 : Int32) (σ : nm_St), Rn X mi_Nm_partsTold F (nm_Qf X F nm_wI) [(0, .ref 0), (1, .ref o1), (2, .int x2), (3, .int x3), (4, .int x4), (5, .int x5)] [] 6 σ (Nm_partsTold_l6 o1 k_52 n x2 x3 x4 x5 σ) := by
  intro n
  induction n with
  | zero =>
    intro x2 x3 x4 x5 σ
    exact rn_none
  | succ n ih =>
    intro x2 x3 x4 x5 σ
    unfold Nm_partsTold_l6
    refine rn_iload (pc := 6) dk_Nm_partsTold_6 rfl ?_
    refine rn_iload_n (pc := 8) 2 dk_Nm_partsTold_8 rfl rfl ?_
    refine rn_icmp_ge (pc := 9) 52 dk_Nm_partsTold_9 (by decide) (fun c1 => ?_) (fun c1 => ?_)
    · exact rn_sub (by rfl) (hk_52 x4 σ)
    · refine rn_aload_n (pc := 12) 1 dk_Nm_partsTold_12 rfl rfl (nm_rok_isH ho1) ?_
      refine rn_iload (pc := 13) dk_Nm_partsTold_13 rfl ?_
      refine cl_Nm_357 (pc := 15) (As := [.int x5]) (st := []) o1 ho1 rfl (ct_Sh_number X o1 ho1 x5 σ) (Nat.le_trans (Nat.le_of_ble_eq_true rfl) hF0) rfl rfl (Nat.le_of_ble_eq_true rfl) dk_Nm_partsTold_15 (fun q2 => ?_)
      refine rn_iload_n (pc := 18) 3 dk_Nm_partsTold_18 rfl rfl ?_
      refine rn_iadd (pc := 19) dk_Nm_partsTold_19 ?_
      refine rn_bipush (pc := 20) (7 : Int32) dk_Nm_partsTold_20 cn_b_7 ?_
      refine rn_iand (pc := 22) dk_Nm_partsTold_22 ?_
      refine rn_leti (fun v3 => ?_)
      refine rn_istore (pc := 23) dk_Nm_partsTold_23 rfl rfl ?_
      refine rn_aload_n (pc := 25) 0 dk_Nm_partsTold_25 rfl rfl rfl ?_
      refine gf_Nm_18 (pc := 26) rfl dk_Nm_partsTold_26 ?_
      refine rn_iload (pc := 29) dk_Nm_partsTold_29 rfl ?_
      refine cl_Nm_158 (pc := 31) (As := [.int v3]) (st := []) 2 rfl rfl (ct_Is_isPart X 2 rfl v3 q2.2) (Nat.le_trans (Nat.le_of_ble_eq_true rfl) hF0) rfl rfl (Nat.le_of_ble_eq_true rfl) dk_Nm_partsTold_31 (fun q4 => ?_)
      refine rn_if_eq (pc := 34) 46 dk_Nm_partsTold_34 (by decide) (fun c5 => ?_) (fun c5 => ?_)
      · refine rn_iinc (pc := 46) (1 : Int32) dk_Nm_partsTold_46 cn_i_1 rfl rfl rfl ?_
        refine rn_goto (pc := 49) 6 dk_Nm_partsTold_49 (by decide) ?_
        exact rn_sub (by rfl) (ih x2 x3 x4 (x5 + (1 : Int32)) q4.2)
      · refine rn_iload (pc := 37) dk_Nm_partsTold_37 rfl ?_
        refine rn_iconst (pc := 39) (1 : Int32) dk_Nm_partsTold_39 cn_i_1 ?_
        refine rn_iload (pc := 40) dk_Nm_partsTold_40 rfl ?_
        refine rn_ishl (pc := 42) dk_Nm_partsTold_42 ?_
        refine rn_ior (pc := 43) dk_Nm_partsTold_43 ?_
        refine rn_leti (fun v6 => ?_)
        refine rn_istore (pc := 44) dk_Nm_partsTold_44 rfl rfl ?_
        refine rn_iinc (pc := 46) (1 : Int32) dk_Nm_partsTold_46 cn_i_1 rfl rfl rfl ?_
        refine rn_goto (pc := 49) 6 dk_Nm_partsTold_49 (by decide) ?_
        exact rn_sub (by rfl) (ih x2 x3 v6 (x5 + (1 : Int32)) q4.2)
def Nm_partsTold (o1 : Nat) (p2 : Int32) (p3 : Int32) (σ : nm_St) : Option (Int32 × nm_St) :=
  Nm_partsTold_l6 o1 (fun (e8 : Int32) (s7 : nm_St) =>
    some (e8, s7)) 400 p2 p3 (0 : Int32) (0 : Int32) σ
set_option maxRecDepth 100000 in
set_option maxHeartbeats 4000000 in
theorem ct_Nm_partsTold (X : nm_X) (o1 : Nat) (ho1 : nm_isH o1 = true) (p2 : Int32) (p3 : Int32) (σ : nm_St) : Ct X mi_Nm_partsTold 1 nm_wI [.ref 0, .ref o1, .int p2, .int p3] σ (Nm_partsTold o1 p2 p3 σ) := by
  refine Ct.of (by decide +kernel) rfl (fun F hF0 => ?_)
  unfold Nm_partsTold
  refine rn_iconst (pc := 0) (0 : Int32) dk_Nm_partsTold_0 cn_i_0 ?_
  refine rn_istore (pc := 1) dk_Nm_partsTold_1 rfl rfl ?_
  refine rn_iconst (pc := 3) (0 : Int32) dk_Nm_partsTold_3 cn_i_0 ?_
  refine rn_istore (pc := 4) dk_Nm_partsTold_4 rfl rfl ?_
  refine rn_sub (by rfl) (r_Nm_partsTold_l6 X F hF0 o1 ho1 _ (fun e8 s7 => ?_) 400 p2 p3 (0 : Int32) (0 : Int32) σ)
  refine rn_iload (pc := 52) dk_Nm_partsTold_52 rfl ?_
  exact rn_iret rfl dk_Nm_partsTold_54
theorem dk_Nm_letter_0 : decode mi_Nm_letter.2.1 0 = .ok (.aload_n 0, 1) := by decide +kernel
theorem dk_Nm_letter_1 : decode mi_Nm_letter.2.1 1 = .ok (.iload_n 1, 1) := by decide +kernel
theorem dk_Nm_letter_2 : decode mi_Nm_letter.2.1 2 = .ok (.iload_n 2, 1) := by decide +kernel
theorem dk_Nm_letter_3 : decode mi_Nm_letter.2.1 3 = .ok (.invokevirtual 258, 3) := by decide +kernel
theorem dk_Nm_letter_6 : decode mi_Nm_letter.2.1 6 = .ok (.istore 4, 2) := by decide +kernel
theorem dk_Nm_letter_8 : decode mi_Nm_letter.2.1 8 = .ok (.iload 4, 2) := by decide +kernel
theorem dk_Nm_letter_10 : decode mi_Nm_letter.2.1 10 = .ok (.ifCond .ne 30, 3) := by decide +kernel
theorem dk_Nm_letter_13 : decode mi_Nm_letter.2.1 13 = .ok (.iload_n 3, 1) := by decide +kernel
theorem dk_Nm_letter_14 : decode mi_Nm_letter.2.1 14 = .ok (.iconst 0, 1) := by decide +kernel
theorem dk_Nm_letter_15 : decode mi_Nm_letter.2.1 15 = .ok (.bipush 7, 2) := by decide +kernel
theorem dk_Nm_letter_17 : decode mi_Nm_letter.2.1 17 = .ok (.invokestatic 144, 3) := by decide +kernel
theorem dk_Nm_letter_20 : decode mi_Nm_letter.2.1 20 = .ok (.ifCond .eq 16, 3) := by decide +kernel
theorem dk_Nm_letter_23 : decode mi_Nm_letter.2.1 23 = .ok (.aload_n 0, 1) := by decide +kernel
theorem dk_Nm_letter_24 : decode mi_Nm_letter.2.1 24 = .ok (.getfield 11, 3) := by decide +kernel
theorem dk_Nm_letter_27 : decode mi_Nm_letter.2.1 27 = .ok (.iload_n 1, 1) := by decide +kernel
theorem dk_Nm_letter_28 : decode mi_Nm_letter.2.1 28 = .ok (.aaload, 1) := by decide +kernel
theorem dk_Nm_letter_29 : decode mi_Nm_letter.2.1 29 = .ok (.iload_n 2, 1) := by decide +kernel
theorem dk_Nm_letter_30 : decode mi_Nm_letter.2.1 30 = .ok (.invokestatic 261, 3) := by decide +kernel
theorem dk_Nm_letter_33 : decode mi_Nm_letter.2.1 33 = .ok (.ifCond .ne 7, 3) := by decide +kernel
theorem dk_Nm_letter_36 : decode mi_Nm_letter.2.1 36 = .ok (.bipush (-6), 2) := by decide +kernel
theorem dk_Nm_letter_38 : decode mi_Nm_letter.2.1 38 = .ok (.istore 4, 2) := by decide +kernel
theorem dk_Nm_letter_40 : decode mi_Nm_letter.2.1 40 = .ok (.iload 4, 2) := by decide +kernel
theorem dk_Nm_letter_42 : decode mi_Nm_letter.2.1 42 = .ok (.ifCond .eq 10, 3) := by decide +kernel
theorem dk_Nm_letter_45 : decode mi_Nm_letter.2.1 45 = .ok (.aload_n 0, 1) := by decide +kernel
theorem dk_Nm_letter_46 : decode mi_Nm_letter.2.1 46 = .ok (.iload 4, 2) := by decide +kernel
theorem dk_Nm_letter_48 : decode mi_Nm_letter.2.1 48 = .ok (.invokevirtual 73, 3) := by decide +kernel
theorem dk_Nm_letter_51 : decode mi_Nm_letter.2.1 51 = .ok (.ireturn, 1) := by decide +kernel
theorem dk_Nm_letter_52 : decode mi_Nm_letter.2.1 52 = .ok (.aload_n 0, 1) := by decide +kernel
theorem dk_Nm_letter_53 : decode mi_Nm_letter.2.1 53 = .ok (.aload_n 0, 1) := by decide +kernel
theorem dk_Nm_letter_54 : decode mi_Nm_letter.2.1 54 = .ok (.getfield 11, 3) := by decide +kernel
theorem dk_Nm_letter_57 : decode mi_Nm_letter.2.1 57 = .ok (.iload_n 1, 1) := by decide +kernel
theorem dk_Nm_letter_58 : decode mi_Nm_letter.2.1 58 = .ok (.aaload, 1) := by decide +kernel
theorem dk_Nm_letter_59 : decode mi_Nm_letter.2.1 59 = .ok (.iload_n 2, 1) := by decide +kernel
theorem dk_Nm_letter_60 : decode mi_Nm_letter.2.1 60 = .ok (.iload_n 3, 1) := by decide +kernel
theorem dk_Nm_letter_61 : decode mi_Nm_letter.2.1 61 = .ok (.invokevirtual 265, 3) := by decide +kernel
theorem dk_Nm_letter_64 : decode mi_Nm_letter.2.1 64 = .ok (.ireturn, 1) := by decide +kernel
def Nm_letter_j40 (x1 : Int32) (x2 : Int32) (x3 : Int32) (x4 : Int32) (σ : nm_St) : Option (Int32 × nm_St) :=
  (if x4 = 0 then
    (nm_g (nm_in x1 8) (
    ((Nm_partsTold (nm_sf x1) x2 x3 σ).bind fun q5 =>
    some (q5.1, q5.2))))
  else
    ((Nm_refuse x4 σ).bind fun q6 =>
    some (q6.1, q6.2)))
set_option maxRecDepth 100000 in
set_option maxHeartbeats 4000000 in
theorem r_Nm_letter_j40 (X : nm_X) (F : nm_F) (hF0 : 3 ≤ nm_d F) (x1 : Int32) (x2 : Int32) (x3 : Int32) (x4 : Int32) (σ : nm_St) : Rn X mi_Nm_letter F (nm_Qf X F nm_wI) [(0, .ref 0), (1, .int x1), (2, .int x2), (3, .int x3), (4, .int x4)] [] 40 σ (Nm_letter_j40 x1 x2 x3 x4 σ) := by
  unfold Nm_letter_j40
  refine rn_iload (pc := 40) dk_Nm_letter_40 rfl ?_
  refine rn_if_eq (pc := 42) 52 dk_Nm_letter_42 (by decide) (fun c3 => ?_) (fun c3 => ?_)
  · refine rn_aload_n (pc := 52) 0 dk_Nm_letter_52 rfl rfl rfl ?_
    refine rn_aload_n (pc := 53) 0 dk_Nm_letter_53 rfl rfl rfl ?_
    refine gf_Nm_11 (pc := 54) rfl dk_Nm_letter_54 ?_
    refine rn_iload_n (pc := 57) 1 dk_Nm_letter_57 rfl rfl ?_
    refine rn_aaload (pc := 58) dk_Nm_letter_58 (fun g4 => ?_)
    refine rn_iload_n (pc := 59) 2 dk_Nm_letter_59 rfl rfl ?_
    refine rn_iload_n (pc := 60) 3 dk_Nm_letter_60 rfl rfl ?_
    refine cl_Nm_265 (pc := 61) (As := [.ref (nm_sf x1), .int x2, .int x3]) (st := []) rfl (ct_Nm_partsTold X (nm_sf x1) (nm_sf_isH g4) x2 x3 σ) (Nat.le_trans (Nat.le_of_ble_eq_true rfl) hF0) rfl rfl (Nat.le_of_ble_eq_true rfl) dk_Nm_letter_61 (fun q5 => ?_)
    exact rn_iret rfl dk_Nm_letter_64
  · refine rn_aload_n (pc := 45) 0 dk_Nm_letter_45 rfl rfl rfl ?_
    refine rn_iload (pc := 46) dk_Nm_letter_46 rfl ?_
    refine cl_Nm_73 (pc := 48) (As := [.int x4]) (st := []) rfl (ct_Nm_refuse X x4 σ) (Nat.le_trans (Nat.le_of_ble_eq_true rfl) hF0) rfl rfl (Nat.le_of_ble_eq_true rfl) dk_Nm_letter_48 (fun q6 => ?_)
    exact rn_iret rfl dk_Nm_letter_51
def Nm_letter_j36 (x1 : Int32) (x2 : Int32) (x3 : Int32) (σ : nm_St) : Option (Int32 × nm_St) :=
  Nm_letter_j40 x1 x2 x3 (-6 : Int32) σ
set_option maxRecDepth 100000 in
set_option maxHeartbeats 4000000 in
theorem r_Nm_letter_j36 (X : nm_X) (F : nm_F) (hF0 : 3 ≤ nm_d F) (x1 : Int32) (x2 : Int32) (x3 : Int32) (σ : nm_St) : Rn X mi_Nm_letter F (nm_Qf X F nm_wI) [(0, .ref 0), (1, .int x1), (2, .int x2), (3, .int x3)] [] 36 σ (Nm_letter_j36 x1 x2 x3 σ) := by
  unfold Nm_letter_j36
  refine rn_bipush (pc := 36) (-6 : Int32) dk_Nm_letter_36 cn_b_m6 ?_
  refine rn_istore (pc := 38) dk_Nm_letter_38 rfl rfl ?_
  exact rn_sub (by rfl) (r_Nm_letter_j40 X F hF0 x1 x2 x3 (-6 : Int32) σ)
def Nm_letter (p1 : Int32) (p2 : Int32) (p3 : Int32) (σ : nm_St) : Option (Int32 × nm_St) :=
  ((Nm_checkFirst p1 p2 σ).bind fun q1 =>
  (if q1.1 = 0 then
    ((Nm_isWithin p3 (0 : Int32) (7 : Int32) q1.2).bind fun q7 =>
    (if q7.1 = 0 then
      Nm_letter_j36 p1 p2 p3 q7.2
    else
      (nm_g (nm_in p1 8) (
      ((Nm_isLetter (nm_sf p1) p2 q7.2).bind fun q10 =>
      (if q10.1 = 0 then
        Nm_letter_j36 p1 p2 p3 q10.2
      else
        Nm_letter_j40 p1 p2 p3 q1.1 q10.2))))))
  else
    Nm_letter_j40 p1 p2 p3 q1.1 q1.2))
set_option maxRecDepth 100000 in
set_option maxHeartbeats 4000000 in
theorem ct_Nm_letter (X : nm_X) (p1 : Int32) (p2 : Int32) (p3 : Int32) (σ : nm_St) : Ct X mi_Nm_letter 3 nm_wI [.ref 0, .int p1, .int p2, .int p3] σ (Nm_letter p1 p2 p3 σ) := by
  refine Ct.of (by decide +kernel) rfl (fun F hF0 => ?_)
  unfold Nm_letter
  refine rn_aload_n (pc := 0) 0 dk_Nm_letter_0 rfl rfl rfl ?_
  refine rn_iload_n (pc := 1) 1 dk_Nm_letter_1 rfl rfl ?_
  refine rn_iload_n (pc := 2) 2 dk_Nm_letter_2 rfl rfl ?_
  refine cl_Nm_258 (pc := 3) (As := [.int p1, .int p2]) (st := []) rfl (ct_Nm_checkFirst X p1 p2 σ) (Nat.le_trans (Nat.le_of_ble_eq_true rfl) hF0) rfl rfl (Nat.le_of_ble_eq_true rfl) dk_Nm_letter_3 (fun q1 => ?_)
  refine rn_istore (pc := 6) dk_Nm_letter_6 rfl rfl ?_
  refine rn_iload (pc := 8) dk_Nm_letter_8 rfl ?_
  refine rn_if_ne (pc := 10) 40 dk_Nm_letter_10 (by decide) (fun c2 => ?_) (fun c2 => ?_)
  · exact rn_sub (by rfl) (r_Nm_letter_j40 X F hF0 p1 p2 p3 q1.1 q1.2)
  · refine rn_iload_n (pc := 13) 3 dk_Nm_letter_13 rfl rfl ?_
    refine rn_iconst (pc := 14) (0 : Int32) dk_Nm_letter_14 cn_i_0 ?_
    refine rn_bipush (pc := 15) (7 : Int32) dk_Nm_letter_15 cn_b_7 ?_
    refine cl_Nm_144 (pc := 17) (As := [.int p3, .int (0 : Int32), .int (7 : Int32)]) (st := []) rfl (ct_Nm_isWithin X p3 (0 : Int32) (7 : Int32) q1.2) (Nat.le_trans (Nat.le_of_ble_eq_true rfl) hF0) rfl rfl (Nat.le_of_ble_eq_true rfl) dk_Nm_letter_17 (fun q7 => ?_)
    refine rn_if_eq (pc := 20) 36 dk_Nm_letter_20 (by decide) (fun c8 => ?_) (fun c8 => ?_)
    · exact rn_sub (by rfl) (r_Nm_letter_j36 X F hF0 p1 p2 p3 q7.2)
    · refine rn_aload_n (pc := 23) 0 dk_Nm_letter_23 rfl rfl rfl ?_
      refine gf_Nm_11 (pc := 24) rfl dk_Nm_letter_24 ?_
      refine rn_iload_n (pc := 27) 1 dk_Nm_letter_27 rfl rfl ?_
      refine rn_aaload (pc := 28) dk_Nm_letter_28 (fun g9 => ?_)
      refine rn_iload_n (pc := 29) 2 dk_Nm_letter_29 rfl rfl ?_
      refine cl_Nm_261 (pc := 30) (As := [.ref (nm_sf p1), .int p2]) (st := []) rfl (ct_Nm_isLetter X (nm_sf p1) (nm_sf_isH g9) p2 q7.2) (Nat.le_trans (Nat.le_of_ble_eq_true rfl) hF0) rfl rfl (Nat.le_of_ble_eq_true rfl) dk_Nm_letter_30 (fun q10 => ?_)
      refine rn_if_ne (pc := 33) 40 dk_Nm_letter_33 (by decide) (fun c11 => ?_) (fun c11 => ?_)
      · exact rn_sub (by rfl) (r_Nm_letter_j40 X F hF0 p1 p2 p3 q1.1 q10.2)
      · exact rn_sub (by rfl) (r_Nm_letter_j36 X F hF0 p1 p2 p3 q10.2)
theorem dk_Is_areParts_0 : decode mi_Is_areParts.2.1 0 = .ok (.iload_n 1, 1) := by decide +kernel
theorem dk_Is_areParts_1 : decode mi_Is_areParts.2.1 1 = .ok (.aload_n 0, 1) := by decide +kernel
theorem dk_Is_areParts_2 : decode mi_Is_areParts.2.1 2 = .ok (.invokevirtual 55, 3) := by decide +kernel
theorem dk_Is_areParts_5 : decode mi_Is_areParts.2.1 5 = .ok (.iconst (-1), 1) := by decide +kernel
theorem dk_Is_areParts_6 : decode mi_Is_areParts.2.1 6 = .ok (.ixor, 1) := by decide +kernel
theorem dk_Is_areParts_7 : decode mi_Is_areParts.2.1 7 = .ok (.iand, 1) := by decide +kernel
theorem dk_Is_areParts_8 : decode mi_Is_areParts.2.1 8 = .ok (.ifCond .ne 7, 3) := by decide +kernel
theorem dk_Is_areParts_11 : decode mi_Is_areParts.2.1 11 = .ok (.iconst 1, 1) := by decide +kernel
theorem dk_Is_areParts_12 : decode mi_Is_areParts.2.1 12 = .ok (.goto 4, 3) := by decide +kernel
theorem dk_Is_areParts_15 : decode mi_Is_areParts.2.1 15 = .ok (.iconst 0, 1) := by decide +kernel
theorem dk_Is_areParts_16 : decode mi_Is_areParts.2.1 16 = .ok (.ireturn, 1) := by decide +kernel
def Is_areParts (o : Nat) (p1 : Int32) (σ : nm_St) : Option (Int32 × nm_St) :=
  ((Is_allParts o σ).bind fun q1 =>
  (if (p1 &&& (q1.1 ^^^ (-1 : Int32))) = 0 then
    some ((1 : Int32), q1.2)
  else
    some ((0 : Int32), q1.2)))
set_option maxRecDepth 100000 in
set_option maxHeartbeats 4000000 in
theorem ct_Is_areParts (X : nm_X) (o : Nat) (ho : nm_isl o = true) (p1 : Int32) (σ : nm_St) : Ct X mi_Is_areParts 1 nm_wI [.ref o, .int p1] σ (Is_areParts o p1 σ) := by
  refine Ct.of (by decide +kernel) rfl (fun F hF0 => ?_)
  unfold Is_areParts
  refine rn_iload_n (pc := 0) 1 dk_Is_areParts_0 rfl rfl ?_
  refine rn_aload_n (pc := 1) 0 dk_Is_areParts_1 rfl rfl (nm_rok_isl ho) ?_
  refine cl_Is_55 (pc := 2) (As := []) (st := [.int p1]) o ho rfl (ct_Is_allParts X o ho σ) (Nat.le_trans (Nat.le_of_ble_eq_true rfl) hF0) rfl rfl (Nat.le_of_ble_eq_true rfl) dk_Is_areParts_2 (fun q1 => ?_)
  refine rn_iconst (pc := 5) (-1 : Int32) dk_Is_areParts_5 cn_i_m1 ?_
  refine rn_ixor (pc := 6) dk_Is_areParts_6 ?_
  refine rn_iand (pc := 7) dk_Is_areParts_7 ?_
  refine rn_if_ne (pc := 8) 15 dk_Is_areParts_8 (by decide) (fun c2 => ?_) (fun c2 => ?_)
  · refine rn_iconst (pc := 15) (0 : Int32) dk_Is_areParts_15 cn_i_0 ?_
    exact rn_zret (ty := .boolean) rfl rfl dk_Is_areParts_16
  · refine rn_iconst (pc := 11) (1 : Int32) dk_Is_areParts_11 cn_i_1 ?_
    refine rn_goto (pc := 12) 16 dk_Is_areParts_12 (by decide) ?_
    exact rn_zret (ty := .boolean) rfl rfl dk_Is_areParts_16
theorem dk_Nm_keys_0 : decode mi_Nm_keys.2.1 0 = .ok (.aload_n 0, 1) := by decide +kernel
theorem dk_Nm_keys_1 : decode mi_Nm_keys.2.1 1 = .ok (.iload_n 1, 1) := by decide +kernel
theorem dk_Nm_keys_2 : decode mi_Nm_keys.2.1 2 = .ok (.iload_n 2, 1) := by decide +kernel
theorem dk_Nm_keys_3 : decode mi_Nm_keys.2.1 3 = .ok (.invokevirtual 258, 3) := by decide +kernel
theorem dk_Nm_keys_6 : decode mi_Nm_keys.2.1 6 = .ok (.istore 4, 2) := by decide +kernel
theorem dk_Nm_keys_8 : decode mi_Nm_keys.2.1 8 = .ok (.iload 4, 2) := by decide +kernel
theorem dk_Nm_keys_10 : decode mi_Nm_keys.2.1 10 = .ok (.ifCond .ne 31, 3) := by decide +kernel
theorem dk_Nm_keys_13 : decode mi_Nm_keys.2.1 13 = .ok (.aload_n 0, 1) := by decide +kernel
theorem dk_Nm_keys_14 : decode mi_Nm_keys.2.1 14 = .ok (.getfield 18, 3) := by decide +kernel
theorem dk_Nm_keys_17 : decode mi_Nm_keys.2.1 17 = .ok (.iload_n 3, 1) := by decide +kernel
theorem dk_Nm_keys_18 : decode mi_Nm_keys.2.1 18 = .ok (.invokevirtual 269, 3) := by decide +kernel
theorem dk_Nm_keys_21 : decode mi_Nm_keys.2.1 21 = .ok (.ifCond .eq 16, 3) := by decide +kernel
theorem dk_Nm_keys_24 : decode mi_Nm_keys.2.1 24 = .ok (.aload_n 0, 1) := by decide +kernel
theorem dk_Nm_keys_25 : decode mi_Nm_keys.2.1 25 = .ok (.getfield 11, 3) := by decide +kernel
theorem dk_Nm_keys_28 : decode mi_Nm_keys.2.1 28 = .ok (.iload_n 1, 1) := by decide +kernel
theorem dk_Nm_keys_29 : decode mi_Nm_keys.2.1 29 = .ok (.aaload, 1) := by decide +kernel
theorem dk_Nm_keys_30 : decode mi_Nm_keys.2.1 30 = .ok (.iload_n 2, 1) := by decide +kernel
theorem dk_Nm_keys_31 : decode mi_Nm_keys.2.1 31 = .ok (.invokestatic 261, 3) := by decide +kernel
theorem dk_Nm_keys_34 : decode mi_Nm_keys.2.1 34 = .ok (.ifCond .ne 7, 3) := by decide +kernel
theorem dk_Nm_keys_37 : decode mi_Nm_keys.2.1 37 = .ok (.bipush (-6), 2) := by decide +kernel
theorem dk_Nm_keys_39 : decode mi_Nm_keys.2.1 39 = .ok (.istore 4, 2) := by decide +kernel
theorem dk_Nm_keys_41 : decode mi_Nm_keys.2.1 41 = .ok (.iload 4, 2) := by decide +kernel
theorem dk_Nm_keys_43 : decode mi_Nm_keys.2.1 43 = .ok (.ifCond .eq 10, 3) := by decide +kernel
theorem dk_Nm_keys_46 : decode mi_Nm_keys.2.1 46 = .ok (.aload_n 0, 1) := by decide +kernel
theorem dk_Nm_keys_47 : decode mi_Nm_keys.2.1 47 = .ok (.iload 4, 2) := by decide +kernel
theorem dk_Nm_keys_49 : decode mi_Nm_keys.2.1 49 = .ok (.invokevirtual 73, 3) := by decide +kernel
theorem dk_Nm_keys_52 : decode mi_Nm_keys.2.1 52 = .ok (.ireturn, 1) := by decide +kernel
theorem dk_Nm_keys_53 : decode mi_Nm_keys.2.1 53 = .ok (.iconst 0, 1) := by decide +kernel
theorem dk_Nm_keys_54 : decode mi_Nm_keys.2.1 54 = .ok (.istore 5, 2) := by decide +kernel
theorem dk_Nm_keys_56 : decode mi_Nm_keys.2.1 56 = .ok (.iconst 0, 1) := by decide +kernel
theorem dk_Nm_keys_57 : decode mi_Nm_keys.2.1 57 = .ok (.istore 6, 2) := by decide +kernel
theorem dk_Nm_keys_59 : decode mi_Nm_keys.2.1 59 = .ok (.iload 6, 2) := by decide +kernel
theorem dk_Nm_keys_61 : decode mi_Nm_keys.2.1 61 = .ok (.bipush 7, 2) := by decide +kernel
theorem dk_Nm_keys_63 : decode mi_Nm_keys.2.1 63 = .ok (.if_icmp .gt 35, 3) := by decide +kernel
theorem dk_Nm_keys_66 : decode mi_Nm_keys.2.1 66 = .ok (.aload_n 0, 1) := by decide +kernel
theorem dk_Nm_keys_67 : decode mi_Nm_keys.2.1 67 = .ok (.aload_n 0, 1) := by decide +kernel
theorem dk_Nm_keys_68 : decode mi_Nm_keys.2.1 68 = .ok (.getfield 11, 3) := by decide +kernel
theorem dk_Nm_keys_71 : decode mi_Nm_keys.2.1 71 = .ok (.iload_n 1, 1) := by decide +kernel
theorem dk_Nm_keys_72 : decode mi_Nm_keys.2.1 72 = .ok (.aaload, 1) := by decide +kernel
theorem dk_Nm_keys_73 : decode mi_Nm_keys.2.1 73 = .ok (.iload_n 2, 1) := by decide +kernel
theorem dk_Nm_keys_74 : decode mi_Nm_keys.2.1 74 = .ok (.iload 6, 2) := by decide +kernel
theorem dk_Nm_keys_76 : decode mi_Nm_keys.2.1 76 = .ok (.invokevirtual 265, 3) := by decide +kernel
theorem dk_Nm_keys_79 : decode mi_Nm_keys.2.1 79 = .ok (.iload_n 3, 1) := by decide +kernel
theorem dk_Nm_keys_80 : decode mi_Nm_keys.2.1 80 = .ok (.if_icmp .ne 12, 3) := by decide +kernel
theorem dk_Nm_keys_83 : decode mi_Nm_keys.2.1 83 = .ok (.iload 5, 2) := by decide +kernel
theorem dk_Nm_keys_85 : decode mi_Nm_keys.2.1 85 = .ok (.iconst 1, 1) := by decide +kernel
theorem dk_Nm_keys_86 : decode mi_Nm_keys.2.1 86 = .ok (.iload 6, 2) := by decide +kernel
theorem dk_Nm_keys_88 : decode mi_Nm_keys.2.1 88 = .ok (.ishl, 1) := by decide +kernel
theorem dk_Nm_keys_89 : decode mi_Nm_keys.2.1 89 = .ok (.ior, 1) := by decide +kernel
theorem dk_Nm_keys_90 : decode mi_Nm_keys.2.1 90 = .ok (.istore 5, 2) := by decide +kernel
theorem dk_Nm_keys_92 : decode mi_Nm_keys.2.1 92 = .ok (.iinc 6 1, 3) := by decide +kernel
theorem dk_Nm_keys_95 : decode mi_Nm_keys.2.1 95 = .ok (.goto (-36), 3) := by decide +kernel
theorem dk_Nm_keys_98 : decode mi_Nm_keys.2.1 98 = .ok (.iload 5, 2) := by decide +kernel
theorem dk_Nm_keys_100 : decode mi_Nm_keys.2.1 100 = .ok (.ireturn, 1) := by decide +kernel
def Nm_keys_l59 (k_98 : Int32 → nm_St → Option (Int32 × nm_St)) : Nat → Int32 → Int32 → Int32 → Int32 → Int32 → nm_St → Option (Int32 × nm_St)
  | 0, _, _, _, _, _, _ => none
  | n + 1, x1, x2, x3, x5, x6, σ =>
    (if (7 : Int32) < x6 then
      k_98 x5 σ
    else
      (nm_g (nm_in x1 8) (
      ((Nm_partsTold (nm_sf x1) x2 x6 σ).bind fun q6 =>
      (if q6.1 = x3 then
        (nm_let ((x5 ||| ((1 : Int32) <<< (x6 &&& 31)))) fun v8 =>
        (Nm_keys_l59 k_98 n) x1 x2 x3 v8 (x6 + (1 : Int32)) q6.2)
      else
        (Nm_keys_l59 k_98 n) x1 x2 x3 x5 (x6 + (1 : Int32)) q6.2)))))
set_option maxRecDepth 100000 in
set_option maxHeartbeats 4000000 in
theorem r_Nm_keys_l59 (X : nm_X) (F : nm_F) (hF0 : 3 ≤ nm_d F) (k_98 : Int32 → nm_St → Option (Int32 × nm_St)) (hk_98 : ∀ (x5 : Int32) (σ : nm_St), Rn X mi_Nm_keys F (nm_Qf X F nm_wI) [(5, .int x5)] [] 98 σ (k_98 x5 σ)) : ∀ (n : Nat) (x1 : Int32) (x2 : Int32) (x3 : Int32) (x5 : Int32) (x6 : Int32) (σ : nm_St), Rn X mi_Nm_keys F (nm_Qf X F nm_wI) [(0, .ref 0), (1, .int x1), (2, .int x2), (3, .int x3), (5, .int x5), (6, .int x6)] [] 59 σ (Nm_keys_l59 k_98 n x1 x2 x3 x5 x6 σ) := by
  intro n
  induction n with
  | zero =>
    intro x1 x2 x3 x5 x6 σ
    exact rn_none
  | succ n ih =>
    intro x1 x2 x3 x5 x6 σ
    unfold Nm_keys_l59
    refine rn_iload (pc := 59) dk_Nm_keys_59 rfl ?_
    refine rn_bipush (pc := 61) (7 : Int32) dk_Nm_keys_61 cn_b_7 ?_
    refine rn_icmp_gt (pc := 63) 98 dk_Nm_keys_63 (by decide) (fun c4 => ?_) (fun c4 => ?_)
    · exact rn_sub (by rfl) (hk_98 x5 σ)
    · refine rn_aload_n (pc := 66) 0 dk_Nm_keys_66 rfl rfl rfl ?_
      refine rn_aload_n (pc := 67) 0 dk_Nm_keys_67 rfl rfl rfl ?_
      refine gf_Nm_11 (pc := 68) rfl dk_Nm_keys_68 ?_
      refine rn_iload_n (pc := 71) 1 dk_Nm_keys_71 rfl rfl ?_
      refine rn_aaload (pc := 72) dk_Nm_keys_72 (fun g5 => ?_)
      refine rn_iload_n (pc := 73) 2 dk_Nm_keys_73 rfl rfl ?_
      refine rn_iload (pc := 74) dk_Nm_keys_74 rfl ?_
      refine cl_Nm_265 (pc := 76) (As := [.ref (nm_sf x1), .int x2, .int x6]) (st := []) rfl (ct_Nm_partsTold X (nm_sf x1) (nm_sf_isH g5) x2 x6 σ) (Nat.le_trans (Nat.le_of_ble_eq_true rfl) hF0) rfl rfl (Nat.le_of_ble_eq_true rfl) dk_Nm_keys_76 (fun q6 => ?_)
      refine rn_iload_n (pc := 79) 3 dk_Nm_keys_79 rfl rfl ?_
      refine rn_icmp_ne (pc := 80) 92 dk_Nm_keys_80 (by decide) (fun c7 => ?_) (fun c7 => ?_)
      · refine rn_iinc (pc := 92) (1 : Int32) dk_Nm_keys_92 cn_i_1 rfl rfl rfl ?_
        refine rn_goto (pc := 95) 59 dk_Nm_keys_95 (by decide) ?_
        exact rn_sub (by rfl) (ih x1 x2 x3 x5 (x6 + (1 : Int32)) q6.2)
      · refine rn_iload (pc := 83) dk_Nm_keys_83 rfl ?_
        refine rn_iconst (pc := 85) (1 : Int32) dk_Nm_keys_85 cn_i_1 ?_
        refine rn_iload (pc := 86) dk_Nm_keys_86 rfl ?_
        refine rn_ishl (pc := 88) dk_Nm_keys_88 ?_
        refine rn_ior (pc := 89) dk_Nm_keys_89 ?_
        refine rn_leti (fun v8 => ?_)
        refine rn_istore (pc := 90) dk_Nm_keys_90 rfl rfl ?_
        refine rn_iinc (pc := 92) (1 : Int32) dk_Nm_keys_92 cn_i_1 rfl rfl rfl ?_
        refine rn_goto (pc := 95) 59 dk_Nm_keys_95 (by decide) ?_
        exact rn_sub (by rfl) (ih x1 x2 x3 v8 (x6 + (1 : Int32)) q6.2)
def Nm_keys_j41 (x1 : Int32) (x2 : Int32) (x3 : Int32) (x4 : Int32) (σ : nm_St) : Option (Int32 × nm_St) :=
  (if x4 = 0 then
    Nm_keys_l59 (fun (e10 : Int32) (s9 : nm_St) =>
      some (e10, s9)) 400 x1 x2 x3 (0 : Int32) (0 : Int32) σ
  else
    ((Nm_refuse x4 σ).bind fun q11 =>
    some (q11.1, q11.2)))
set_option maxRecDepth 100000 in
set_option maxHeartbeats 4000000 in
theorem r_Nm_keys_j41 (X : nm_X) (F : nm_F) (hF0 : 3 ≤ nm_d F) (x1 : Int32) (x2 : Int32) (x3 : Int32) (x4 : Int32) (σ : nm_St) : Rn X mi_Nm_keys F (nm_Qf X F nm_wI) [(0, .ref 0), (1, .int x1), (2, .int x2), (3, .int x3), (4, .int x4)] [] 41 σ (Nm_keys_j41 x1 x2 x3 x4 σ) := by
  unfold Nm_keys_j41
  refine rn_iload (pc := 41) dk_Nm_keys_41 rfl ?_
  refine rn_if_eq (pc := 43) 53 dk_Nm_keys_43 (by decide) (fun c3 => ?_) (fun c3 => ?_)
  · refine rn_iconst (pc := 53) (0 : Int32) dk_Nm_keys_53 cn_i_0 ?_
    refine rn_istore (pc := 54) dk_Nm_keys_54 rfl rfl ?_
    refine rn_iconst (pc := 56) (0 : Int32) dk_Nm_keys_56 cn_i_0 ?_
    refine rn_istore (pc := 57) dk_Nm_keys_57 rfl rfl ?_
    refine rn_sub (by rfl) (r_Nm_keys_l59 X F hF0 _ (fun e10 s9 => ?_) 400 x1 x2 x3 (0 : Int32) (0 : Int32) σ)
    refine rn_iload (pc := 98) dk_Nm_keys_98 rfl ?_
    exact rn_iret rfl dk_Nm_keys_100
  · refine rn_aload_n (pc := 46) 0 dk_Nm_keys_46 rfl rfl rfl ?_
    refine rn_iload (pc := 47) dk_Nm_keys_47 rfl ?_
    refine cl_Nm_73 (pc := 49) (As := [.int x4]) (st := []) rfl (ct_Nm_refuse X x4 σ) (Nat.le_trans (Nat.le_of_ble_eq_true rfl) hF0) rfl rfl (Nat.le_of_ble_eq_true rfl) dk_Nm_keys_49 (fun q11 => ?_)
    exact rn_iret rfl dk_Nm_keys_52
def Nm_keys_j37 (x1 : Int32) (x2 : Int32) (x3 : Int32) (σ : nm_St) : Option (Int32 × nm_St) :=
  Nm_keys_j41 x1 x2 x3 (-6 : Int32) σ
set_option maxRecDepth 100000 in
set_option maxHeartbeats 4000000 in
theorem r_Nm_keys_j37 (X : nm_X) (F : nm_F) (hF0 : 3 ≤ nm_d F) (x1 : Int32) (x2 : Int32) (x3 : Int32) (σ : nm_St) : Rn X mi_Nm_keys F (nm_Qf X F nm_wI) [(0, .ref 0), (1, .int x1), (2, .int x2), (3, .int x3)] [] 37 σ (Nm_keys_j37 x1 x2 x3 σ) := by
  unfold Nm_keys_j37
  refine rn_bipush (pc := 37) (-6 : Int32) dk_Nm_keys_37 cn_b_m6 ?_
  refine rn_istore (pc := 39) dk_Nm_keys_39 rfl rfl ?_
  exact rn_sub (by rfl) (r_Nm_keys_j41 X F hF0 x1 x2 x3 (-6 : Int32) σ)
def Nm_keys (p1 : Int32) (p2 : Int32) (p3 : Int32) (σ : nm_St) : Option (Int32 × nm_St) :=
  ((Nm_checkFirst p1 p2 σ).bind fun q1 =>
  (if q1.1 = 0 then
    ((Is_areParts 2 p3 q1.2).bind fun q12 =>
    (if q12.1 = 0 then
      Nm_keys_j37 p1 p2 p3 q12.2
    else
      (nm_g (nm_in p1 8) (
      ((Nm_isLetter (nm_sf p1) p2 q12.2).bind fun q15 =>
      (if q15.1 = 0 then
        Nm_keys_j37 p1 p2 p3 q15.2
      else
        Nm_keys_j41 p1 p2 p3 q1.1 q15.2))))))
  else
    Nm_keys_j41 p1 p2 p3 q1.1 q1.2))
set_option maxRecDepth 100000 in
set_option maxHeartbeats 4000000 in
theorem ct_Nm_keys (X : nm_X) (p1 : Int32) (p2 : Int32) (p3 : Int32) (σ : nm_St) : Ct X mi_Nm_keys 3 nm_wI [.ref 0, .int p1, .int p2, .int p3] σ (Nm_keys p1 p2 p3 σ) := by
  refine Ct.of (by decide +kernel) rfl (fun F hF0 => ?_)
  unfold Nm_keys
  refine rn_aload_n (pc := 0) 0 dk_Nm_keys_0 rfl rfl rfl ?_
  refine rn_iload_n (pc := 1) 1 dk_Nm_keys_1 rfl rfl ?_
  refine rn_iload_n (pc := 2) 2 dk_Nm_keys_2 rfl rfl ?_
  refine cl_Nm_258 (pc := 3) (As := [.int p1, .int p2]) (st := []) rfl (ct_Nm_checkFirst X p1 p2 σ) (Nat.le_trans (Nat.le_of_ble_eq_true rfl) hF0) rfl rfl (Nat.le_of_ble_eq_true rfl) dk_Nm_keys_3 (fun q1 => ?_)
  refine rn_istore (pc := 6) dk_Nm_keys_6 rfl rfl ?_
  refine rn_iload (pc := 8) dk_Nm_keys_8 rfl ?_
  refine rn_if_ne (pc := 10) 41 dk_Nm_keys_10 (by decide) (fun c2 => ?_) (fun c2 => ?_)
  · exact rn_sub (by rfl) (r_Nm_keys_j41 X F hF0 p1 p2 p3 q1.1 q1.2)
  · refine rn_aload_n (pc := 13) 0 dk_Nm_keys_13 rfl rfl rfl ?_
    refine gf_Nm_18 (pc := 14) rfl dk_Nm_keys_14 ?_
    refine rn_iload_n (pc := 17) 3 dk_Nm_keys_17 rfl rfl ?_
    refine cl_Nm_269 (pc := 18) (As := [.int p3]) (st := []) 2 rfl rfl (ct_Is_areParts X 2 rfl p3 q1.2) (Nat.le_trans (Nat.le_of_ble_eq_true rfl) hF0) rfl rfl (Nat.le_of_ble_eq_true rfl) dk_Nm_keys_18 (fun q12 => ?_)
    refine rn_if_eq (pc := 21) 37 dk_Nm_keys_21 (by decide) (fun c13 => ?_) (fun c13 => ?_)
    · exact rn_sub (by rfl) (r_Nm_keys_j37 X F hF0 p1 p2 p3 q12.2)
    · refine rn_aload_n (pc := 24) 0 dk_Nm_keys_24 rfl rfl rfl ?_
      refine gf_Nm_11 (pc := 25) rfl dk_Nm_keys_25 ?_
      refine rn_iload_n (pc := 28) 1 dk_Nm_keys_28 rfl rfl ?_
      refine rn_aaload (pc := 29) dk_Nm_keys_29 (fun g14 => ?_)
      refine rn_iload_n (pc := 30) 2 dk_Nm_keys_30 rfl rfl ?_
      refine cl_Nm_261 (pc := 31) (As := [.ref (nm_sf p1), .int p2]) (st := []) rfl (ct_Nm_isLetter X (nm_sf p1) (nm_sf_isH g14) p2 q12.2) (Nat.le_trans (Nat.le_of_ble_eq_true rfl) hF0) rfl rfl (Nat.le_of_ble_eq_true rfl) dk_Nm_keys_31 (fun q15 => ?_)
      refine rn_if_ne (pc := 34) 41 dk_Nm_keys_34 (by decide) (fun c16 => ?_) (fun c16 => ?_)
      · exact rn_sub (by rfl) (r_Nm_keys_j41 X F hF0 p1 p2 p3 q1.1 q15.2)
      · exact rn_sub (by rfl) (r_Nm_keys_j37 X F hF0 p1 p2 p3 q15.2)
theorem dk_Nm_allWeights_0 : decode mi_Nm_allWeights.2.1 0 = .ok (.iconst 0, 1) := by decide +kernel
theorem dk_Nm_allWeights_1 : decode mi_Nm_allWeights.2.1 1 = .ok (.istore_n 2, 1) := by decide +kernel
theorem dk_Nm_allWeights_2 : decode mi_Nm_allWeights.2.1 2 = .ok (.iconst 0, 1) := by decide +kernel
theorem dk_Nm_allWeights_3 : decode mi_Nm_allWeights.2.1 3 = .ok (.istore_n 3, 1) := by decide +kernel
theorem dk_Nm_allWeights_4 : decode mi_Nm_allWeights.2.1 4 = .ok (.iload_n 3, 1) := by decide +kernel
theorem dk_Nm_allWeights_5 : decode mi_Nm_allWeights.2.1 5 = .ok (.iload_n 1, 1) := by decide +kernel
theorem dk_Nm_allWeights_6 : decode mi_Nm_allWeights.2.1 6 = .ok (.if_icmp .ge 17, 3) := by decide +kernel
theorem dk_Nm_allWeights_9 : decode mi_Nm_allWeights.2.1 9 = .ok (.iload_n 2, 1) := by decide +kernel
theorem dk_Nm_allWeights_10 : decode mi_Nm_allWeights.2.1 10 = .ok (.aload_n 0, 1) := by decide +kernel
theorem dk_Nm_allWeights_11 : decode mi_Nm_allWeights.2.1 11 = .ok (.iload_n 3, 1) := by decide +kernel
theorem dk_Nm_allWeights_12 : decode mi_Nm_allWeights.2.1 12 = .ok (.invokevirtual 357, 3) := by decide +kernel
theorem dk_Nm_allWeights_15 : decode mi_Nm_allWeights.2.1 15 = .ok (.iadd, 1) := by decide +kernel
theorem dk_Nm_allWeights_16 : decode mi_Nm_allWeights.2.1 16 = .ok (.istore_n 2, 1) := by decide +kernel
theorem dk_Nm_allWeights_17 : decode mi_Nm_allWeights.2.1 17 = .ok (.iinc 3 1, 3) := by decide +kernel
theorem dk_Nm_allWeights_20 : decode mi_Nm_allWeights.2.1 20 = .ok (.goto (-16), 3) := by decide +kernel
theorem dk_Nm_allWeights_23 : decode mi_Nm_allWeights.2.1 23 = .ok (.iload_n 2, 1) := by decide +kernel
theorem dk_Nm_allWeights_24 : decode mi_Nm_allWeights.2.1 24 = .ok (.ireturn, 1) := by decide +kernel
def Nm_allWeights_l4 (o0 : Nat) (k_23 : Int32 → nm_St → Option (Int32 × nm_St)) : Nat → Int32 → Int32 → Int32 → nm_St → Option (Int32 × nm_St)
  | 0, _, _, _, _ => none
  | n + 1, x1, x2, x3, σ =>
    (if x1 ≤ x3 then
      k_23 x2 σ
    else
      ((Sh_number o0 x3 σ).bind fun q2 =>
      (Nm_allWeights_l4 o0 k_23 n) x1 (x2 + q2.1) (x3 + (1 : Int32)) q2.2))
set_option maxRecDepth 100000 in
set_option maxHeartbeats 4000000 in
theorem r_Nm_allWeights_l4 (X : nm_X) (F : nm_F) (hF0 : 1 ≤ nm_d F) (o0 : Nat) (ho0 : nm_isH o0 = true) (k_23 : Int32 → nm_St → Option (Int32 × nm_St)) (hk_23 : ∀ (x2 : Int32) (σ : nm_St), Rn X mi_Nm_allWeights F (nm_Qf X F nm_wI) [(2, .int x2)] [] 23 σ (k_23 x2 σ)) : ∀ (n : Nat) (x1 : Int32) (x2 : Int32) (x3 : Int32) (σ : nm_St), Rn X mi_Nm_allWeights F (nm_Qf X F nm_wI) [(0, .ref o0), (1, .int x1), (2, .int x2), (3, .int x3)] [] 4 σ (Nm_allWeights_l4 o0 k_23 n x1 x2 x3 σ) := by
  intro n
  induction n with
  | zero =>
    intro x1 x2 x3 σ
    exact rn_none
  | succ n ih =>
    intro x1 x2 x3 σ
    unfold Nm_allWeights_l4
    refine rn_iload_n (pc := 4) 3 dk_Nm_allWeights_4 rfl rfl ?_
    refine rn_iload_n (pc := 5) 1 dk_Nm_allWeights_5 rfl rfl ?_
    refine rn_icmp_ge (pc := 6) 23 dk_Nm_allWeights_6 (by decide) (fun c1 => ?_) (fun c1 => ?_)
    · exact rn_sub (by rfl) (hk_23 x2 σ)
    · refine rn_iload_n (pc := 9) 2 dk_Nm_allWeights_9 rfl rfl ?_
      refine rn_aload_n (pc := 10) 0 dk_Nm_allWeights_10 rfl rfl (nm_rok_isH ho0) ?_
      refine rn_iload_n (pc := 11) 3 dk_Nm_allWeights_11 rfl rfl ?_
      refine cl_Nm_357 (pc := 12) (As := [.int x3]) (st := [.int x2]) o0 ho0 rfl (ct_Sh_number X o0 ho0 x3 σ) (Nat.le_trans (Nat.le_of_ble_eq_true rfl) hF0) rfl rfl (Nat.le_of_ble_eq_true rfl) dk_Nm_allWeights_12 (fun q2 => ?_)
      refine rn_iadd (pc := 15) dk_Nm_allWeights_15 ?_
      refine rn_istore_n (pc := 16) 2 dk_Nm_allWeights_16 rfl rfl rfl ?_
      refine rn_iinc (pc := 17) (1 : Int32) dk_Nm_allWeights_17 cn_i_1 rfl rfl rfl ?_
      refine rn_goto (pc := 20) 4 dk_Nm_allWeights_20 (by decide) ?_
      exact rn_sub (by rfl) (ih x1 (x2 + q2.1) (x3 + (1 : Int32)) q2.2)
def Nm_allWeights (o0 : Nat) (p1 : Int32) (σ : nm_St) : Option (Int32 × nm_St) :=
  Nm_allWeights_l4 o0 (fun (e4 : Int32) (s3 : nm_St) =>
    some (e4, s3)) 400 p1 (0 : Int32) (0 : Int32) σ
set_option maxRecDepth 100000 in
set_option maxHeartbeats 4000000 in
theorem ct_Nm_allWeights (X : nm_X) (o0 : Nat) (ho0 : nm_isH o0 = true) (p1 : Int32) (σ : nm_St) : Ct X mi_Nm_allWeights 1 nm_wI [.ref o0, .int p1] σ (Nm_allWeights o0 p1 σ) := by
  refine Ct.of (by decide +kernel) rfl (fun F hF0 => ?_)
  unfold Nm_allWeights
  refine rn_iconst (pc := 0) (0 : Int32) dk_Nm_allWeights_0 cn_i_0 ?_
  refine rn_istore_n (pc := 1) 2 dk_Nm_allWeights_1 rfl rfl rfl ?_
  refine rn_iconst (pc := 2) (0 : Int32) dk_Nm_allWeights_2 cn_i_0 ?_
  refine rn_istore_n (pc := 3) 3 dk_Nm_allWeights_3 rfl rfl rfl ?_
  refine rn_sub (by rfl) (r_Nm_allWeights_l4 X F hF0 o0 ho0 _ (fun e4 s3 => ?_) 400 p1 (0 : Int32) (0 : Int32) σ)
  refine rn_iload_n (pc := 23) 2 dk_Nm_allWeights_23 rfl rfl ?_
  exact rn_iret rfl dk_Nm_allWeights_24
theorem dk_Nm_areWeights_0 : decode mi_Nm_areWeights.2.1 0 = .ok (.aload_n 0, 1) := by decide +kernel
theorem dk_Nm_areWeights_1 : decode mi_Nm_areWeights.2.1 1 = .ok (.iload_n 1, 1) := by decide +kernel
theorem dk_Nm_areWeights_2 : decode mi_Nm_areWeights.2.1 2 = .ok (.iconst 0, 1) := by decide +kernel
theorem dk_Nm_areWeights_3 : decode mi_Nm_areWeights.2.1 3 = .ok (.bipush 99, 2) := by decide +kernel
theorem dk_Nm_areWeights_5 : decode mi_Nm_areWeights.2.1 5 = .ok (.invokevirtual 354, 3) := by decide +kernel
theorem dk_Nm_areWeights_8 : decode mi_Nm_areWeights.2.1 8 = .ok (.ifCond .eq 15, 3) := by decide +kernel
theorem dk_Nm_areWeights_11 : decode mi_Nm_areWeights.2.1 11 = .ok (.aload_n 0, 1) := by decide +kernel
theorem dk_Nm_areWeights_12 : decode mi_Nm_areWeights.2.1 12 = .ok (.iload_n 1, 1) := by decide +kernel
theorem dk_Nm_areWeights_13 : decode mi_Nm_areWeights.2.1 13 = .ok (.invokestatic 360, 3) := by decide +kernel
theorem dk_Nm_areWeights_16 : decode mi_Nm_areWeights.2.1 16 = .ok (.ifCond .le 7, 3) := by decide +kernel
theorem dk_Nm_areWeights_19 : decode mi_Nm_areWeights.2.1 19 = .ok (.iconst 1, 1) := by decide +kernel
theorem dk_Nm_areWeights_20 : decode mi_Nm_areWeights.2.1 20 = .ok (.goto 4, 3) := by decide +kernel
theorem dk_Nm_areWeights_23 : decode mi_Nm_areWeights.2.1 23 = .ok (.iconst 0, 1) := by decide +kernel
theorem dk_Nm_areWeights_24 : decode mi_Nm_areWeights.2.1 24 = .ok (.ireturn, 1) := by decide +kernel
def Nm_areWeights (o0 : Nat) (p1 : Int32) (σ : nm_St) : Option (Int32 × nm_St) :=
  ((Sh_areWithin o0 p1 (0 : Int32) (99 : Int32) σ).bind fun q1 =>
  (if q1.1 = 0 then
    some ((0 : Int32), q1.2)
  else
    ((Nm_allWeights o0 p1 q1.2).bind fun q3 =>
    (if q3.1 ≤ 0 then
      some ((0 : Int32), q3.2)
    else
      some ((1 : Int32), q3.2)))))
set_option maxRecDepth 100000 in
set_option maxHeartbeats 4000000 in
theorem ct_Nm_areWeights (X : nm_X) (o0 : Nat) (ho0 : nm_isH o0 = true) (p1 : Int32) (σ : nm_St) : Ct X mi_Nm_areWeights 2 nm_wI [.ref o0, .int p1] σ (Nm_areWeights o0 p1 σ) := by
  refine Ct.of (by decide +kernel) rfl (fun F hF0 => ?_)
  unfold Nm_areWeights
  refine rn_aload_n (pc := 0) 0 dk_Nm_areWeights_0 rfl rfl (nm_rok_isH ho0) ?_
  refine rn_iload_n (pc := 1) 1 dk_Nm_areWeights_1 rfl rfl ?_
  refine rn_iconst (pc := 2) (0 : Int32) dk_Nm_areWeights_2 cn_i_0 ?_
  refine rn_bipush (pc := 3) (99 : Int32) dk_Nm_areWeights_3 cn_b_99 ?_
  refine cl_Nm_354 (pc := 5) (As := [.int p1, .int (0 : Int32), .int (99 : Int32)]) (st := []) o0 ho0 rfl (ct_Sh_areWithin X o0 ho0 p1 (0 : Int32) (99 : Int32) σ) (Nat.le_trans (Nat.le_of_ble_eq_true rfl) hF0) rfl rfl (Nat.le_of_ble_eq_true rfl) dk_Nm_areWeights_5 (fun q1 => ?_)
  refine rn_if_eq (pc := 8) 23 dk_Nm_areWeights_8 (by decide) (fun c2 => ?_) (fun c2 => ?_)
  · refine rn_iconst (pc := 23) (0 : Int32) dk_Nm_areWeights_23 cn_i_0 ?_
    exact rn_zret (ty := .boolean) rfl rfl dk_Nm_areWeights_24
  · refine rn_aload_n (pc := 11) 0 dk_Nm_areWeights_11 rfl rfl (nm_rok_isH ho0) ?_
    refine rn_iload_n (pc := 12) 1 dk_Nm_areWeights_12 rfl rfl ?_
    refine cl_Nm_360 (pc := 13) (As := [.ref o0, .int p1]) (st := []) rfl (ct_Nm_allWeights X o0 ho0 p1 q1.2) (Nat.le_trans (Nat.le_of_ble_eq_true rfl) hF0) rfl rfl (Nat.le_of_ble_eq_true rfl) dk_Nm_areWeights_13 (fun q3 => ?_)
    refine rn_if_le (pc := 16) 23 dk_Nm_areWeights_16 (by decide) (fun c4 => ?_) (fun c4 => ?_)
    · refine rn_iconst (pc := 23) (0 : Int32) dk_Nm_areWeights_23 cn_i_0 ?_
      exact rn_zret (ty := .boolean) rfl rfl dk_Nm_areWeights_24
    · refine rn_iconst (pc := 19) (1 : Int32) dk_Nm_areWeights_19 cn_i_1 ?_
      refine rn_goto (pc := 20) 24 dk_Nm_areWeights_20 (by decide) ?_
      exact rn_zret (ty := .boolean) rfl rfl dk_Nm_areWeights_24
theorem dk_Nm_placeOf_0 : decode mi_Nm_placeOf.2.1 0 = .ok (.iconst 1, 1) := by decide +kernel
theorem dk_Nm_placeOf_1 : decode mi_Nm_placeOf.2.1 1 = .ok (.istore_n 3, 1) := by decide +kernel
theorem dk_Nm_placeOf_2 : decode mi_Nm_placeOf.2.1 2 = .ok (.aload_n 0, 1) := by decide +kernel
theorem dk_Nm_placeOf_3 : decode mi_Nm_placeOf.2.1 3 = .ok (.iload_n 2, 1) := by decide +kernel
theorem dk_Nm_placeOf_4 : decode mi_Nm_placeOf.2.1 4 = .ok (.invokevirtual 357, 3) := by decide +kernel
theorem dk_Nm_placeOf_7 : decode mi_Nm_placeOf.2.1 7 = .ok (.istore 4, 2) := by decide +kernel
theorem dk_Nm_placeOf_9 : decode mi_Nm_placeOf.2.1 9 = .ok (.iconst 0, 1) := by decide +kernel
theorem dk_Nm_placeOf_10 : decode mi_Nm_placeOf.2.1 10 = .ok (.istore 5, 2) := by decide +kernel
theorem dk_Nm_placeOf_12 : decode mi_Nm_placeOf.2.1 12 = .ok (.iload 5, 2) := by decide +kernel
theorem dk_Nm_placeOf_14 : decode mi_Nm_placeOf.2.1 14 = .ok (.iload_n 1, 1) := by decide +kernel
theorem dk_Nm_placeOf_15 : decode mi_Nm_placeOf.2.1 15 = .ok (.if_icmp .ge 40, 3) := by decide +kernel
theorem dk_Nm_placeOf_18 : decode mi_Nm_placeOf.2.1 18 = .ok (.aload_n 0, 1) := by decide +kernel
theorem dk_Nm_placeOf_19 : decode mi_Nm_placeOf.2.1 19 = .ok (.iload 5, 2) := by decide +kernel
theorem dk_Nm_placeOf_21 : decode mi_Nm_placeOf.2.1 21 = .ok (.invokevirtual 357, 3) := by decide +kernel
theorem dk_Nm_placeOf_24 : decode mi_Nm_placeOf.2.1 24 = .ok (.istore 6, 2) := by decide +kernel
theorem dk_Nm_placeOf_26 : decode mi_Nm_placeOf.2.1 26 = .ok (.iload 6, 2) := by decide +kernel
theorem dk_Nm_placeOf_28 : decode mi_Nm_placeOf.2.1 28 = .ok (.iload 4, 2) := by decide +kernel
theorem dk_Nm_placeOf_30 : decode mi_Nm_placeOf.2.1 30 = .ok (.if_icmp .gt 16, 3) := by decide +kernel
theorem dk_Nm_placeOf_33 : decode mi_Nm_placeOf.2.1 33 = .ok (.iload 6, 2) := by decide +kernel
theorem dk_Nm_placeOf_35 : decode mi_Nm_placeOf.2.1 35 = .ok (.iload 4, 2) := by decide +kernel
theorem dk_Nm_placeOf_37 : decode mi_Nm_placeOf.2.1 37 = .ok (.if_icmp .ne 12, 3) := by decide +kernel
theorem dk_Nm_placeOf_40 : decode mi_Nm_placeOf.2.1 40 = .ok (.iload 5, 2) := by decide +kernel
theorem dk_Nm_placeOf_42 : decode mi_Nm_placeOf.2.1 42 = .ok (.iload_n 2, 1) := by decide +kernel
theorem dk_Nm_placeOf_43 : decode mi_Nm_placeOf.2.1 43 = .ok (.if_icmp .ge 6, 3) := by decide +kernel
theorem dk_Nm_placeOf_46 : decode mi_Nm_placeOf.2.1 46 = .ok (.iinc 3 1, 3) := by decide +kernel
theorem dk_Nm_placeOf_49 : decode mi_Nm_placeOf.2.1 49 = .ok (.iinc 5 1, 3) := by decide +kernel
theorem dk_Nm_placeOf_52 : decode mi_Nm_placeOf.2.1 52 = .ok (.goto (-40), 3) := by decide +kernel
theorem dk_Nm_placeOf_55 : decode mi_Nm_placeOf.2.1 55 = .ok (.iload_n 3, 1) := by decide +kernel
theorem dk_Nm_placeOf_56 : decode mi_Nm_placeOf.2.1 56 = .ok (.ireturn, 1) := by decide +kernel
def Nm_placeOf_l12 (o0 : Nat) (k_55 : Int32 → nm_St → Option (Int32 × nm_St)) : Nat → Int32 → Int32 → Int32 → Int32 → Int32 → nm_St → Option (Int32 × nm_St)
  | 0, _, _, _, _, _, _ => none
  | n + 1, x1, x2, x3, x4, x5, σ =>
    (if x1 ≤ x5 then
      k_55 x3 σ
    else
      ((Sh_number o0 x5 σ).bind fun q3 =>
      (if x4 < q3.1 then
        (Nm_placeOf_l12 o0 k_55 n) x1 x2 (x3 + (1 : Int32)) x4 (x5 + (1 : Int32)) q3.2
      else
        (if q3.1 = x4 then
          (if x2 ≤ x5 then
            (Nm_placeOf_l12 o0 k_55 n) x1 x2 x3 x4 (x5 + (1 : Int32)) q3.2
          else
            (Nm_placeOf_l12 o0 k_55 n) x1 x2 (x3 + (1 : Int32)) x4 (x5 + (1 : Int32)) q3.2)
        else
          (Nm_placeOf_l12 o0 k_55 n) x1 x2 x3 x4 (x5 + (1 : Int32)) q3.2))))
set_option maxRecDepth 100000 in
set_option maxHeartbeats 4000000 in
theorem r_Nm_placeOf_l12 (X : nm_X) (F : nm_F) (hF0 : 1 ≤ nm_d F) (o0 : Nat) (ho0 : nm_isH o0 = true) (k_55 : Int32 → nm_St → Option (Int32 × nm_St)) (hk_55 : ∀ (x3 : Int32) (σ : nm_St), Rn X mi_Nm_placeOf F (nm_Qf X F nm_wI) [(3, .int x3)] [] 55 σ (k_55 x3 σ)) : ∀ (n : Nat) (x1 : Int32) (x2 : Int32) (x3 : Int32) (x4 : Int32) (x5 : Int32) (σ : nm_St), Rn X mi_Nm_placeOf F (nm_Qf X F nm_wI) [(0, .ref o0), (1, .int x1), (2, .int x2), (3, .int x3), (4, .int x4), (5, .int x5)] [] 12 σ (Nm_placeOf_l12 o0 k_55 n x1 x2 x3 x4 x5 σ) := by
  intro n
  induction n with
  | zero =>
    intro x1 x2 x3 x4 x5 σ
    exact rn_none
  | succ n ih =>
    intro x1 x2 x3 x4 x5 σ
    unfold Nm_placeOf_l12
    refine rn_iload (pc := 12) dk_Nm_placeOf_12 rfl ?_
    refine rn_iload_n (pc := 14) 1 dk_Nm_placeOf_14 rfl rfl ?_
    refine rn_icmp_ge (pc := 15) 55 dk_Nm_placeOf_15 (by decide) (fun c2 => ?_) (fun c2 => ?_)
    · exact rn_sub (by rfl) (hk_55 x3 σ)
    · refine rn_aload_n (pc := 18) 0 dk_Nm_placeOf_18 rfl rfl (nm_rok_isH ho0) ?_
      refine rn_iload (pc := 19) dk_Nm_placeOf_19 rfl ?_
      refine cl_Nm_357 (pc := 21) (As := [.int x5]) (st := []) o0 ho0 rfl (ct_Sh_number X o0 ho0 x5 σ) (Nat.le_trans (Nat.le_of_ble_eq_true rfl) hF0) rfl rfl (Nat.le_of_ble_eq_true rfl) dk_Nm_placeOf_21 (fun q3 => ?_)
      refine rn_istore (pc := 24) dk_Nm_placeOf_24 rfl rfl ?_
      refine rn_iload (pc := 26) dk_Nm_placeOf_26 rfl ?_
      refine rn_iload (pc := 28) dk_Nm_placeOf_28 rfl ?_
      refine rn_icmp_gt (pc := 30) 46 dk_Nm_placeOf_30 (by decide) (fun c4 => ?_) (fun c4 => ?_)
      · refine rn_iinc (pc := 46) (1 : Int32) dk_Nm_placeOf_46 cn_i_1 rfl rfl rfl ?_
        refine rn_iinc (pc := 49) (1 : Int32) dk_Nm_placeOf_49 cn_i_1 rfl rfl rfl ?_
        refine rn_goto (pc := 52) 12 dk_Nm_placeOf_52 (by decide) ?_
        exact rn_sub (by rfl) (ih x1 x2 (x3 + (1 : Int32)) x4 (x5 + (1 : Int32)) q3.2)
      · refine rn_iload (pc := 33) dk_Nm_placeOf_33 rfl ?_
        refine rn_iload (pc := 35) dk_Nm_placeOf_35 rfl ?_
        refine rn_icmp_ne (pc := 37) 49 dk_Nm_placeOf_37 (by decide) (fun c5 => ?_) (fun c5 => ?_)
        · refine rn_iinc (pc := 49) (1 : Int32) dk_Nm_placeOf_49 cn_i_1 rfl rfl rfl ?_
          refine rn_goto (pc := 52) 12 dk_Nm_placeOf_52 (by decide) ?_
          exact rn_sub (by rfl) (ih x1 x2 x3 x4 (x5 + (1 : Int32)) q3.2)
        · refine rn_iload (pc := 40) dk_Nm_placeOf_40 rfl ?_
          refine rn_iload_n (pc := 42) 2 dk_Nm_placeOf_42 rfl rfl ?_
          refine rn_icmp_ge (pc := 43) 49 dk_Nm_placeOf_43 (by decide) (fun c6 => ?_) (fun c6 => ?_)
          · refine rn_iinc (pc := 49) (1 : Int32) dk_Nm_placeOf_49 cn_i_1 rfl rfl rfl ?_
            refine rn_goto (pc := 52) 12 dk_Nm_placeOf_52 (by decide) ?_
            exact rn_sub (by rfl) (ih x1 x2 x3 x4 (x5 + (1 : Int32)) q3.2)
          · refine rn_iinc (pc := 46) (1 : Int32) dk_Nm_placeOf_46 cn_i_1 rfl rfl rfl ?_
            refine rn_iinc (pc := 49) (1 : Int32) dk_Nm_placeOf_49 cn_i_1 rfl rfl rfl ?_
            refine rn_goto (pc := 52) 12 dk_Nm_placeOf_52 (by decide) ?_
            exact rn_sub (by rfl) (ih x1 x2 (x3 + (1 : Int32)) x4 (x5 + (1 : Int32)) q3.2)
def Nm_placeOf (o0 : Nat) (p1 : Int32) (p2 : Int32) (σ : nm_St) : Option (Int32 × nm_St) :=
  ((Sh_number o0 p2 σ).bind fun q1 =>
  Nm_placeOf_l12 o0 (fun (e8 : Int32) (s7 : nm_St) =>
    some (e8, s7)) 400 p1 p2 (1 : Int32) q1.1 (0 : Int32) q1.2)
set_option maxRecDepth 100000 in
set_option maxHeartbeats 4000000 in
theorem ct_Nm_placeOf (X : nm_X) (o0 : Nat) (ho0 : nm_isH o0 = true) (p1 : Int32) (p2 : Int32) (σ : nm_St) : Ct X mi_Nm_placeOf 1 nm_wI [.ref o0, .int p1, .int p2] σ (Nm_placeOf o0 p1 p2 σ) := by
  refine Ct.of (by decide +kernel) rfl (fun F hF0 => ?_)
  unfold Nm_placeOf
  refine rn_iconst (pc := 0) (1 : Int32) dk_Nm_placeOf_0 cn_i_1 ?_
  refine rn_istore_n (pc := 1) 3 dk_Nm_placeOf_1 rfl rfl rfl ?_
  refine rn_aload_n (pc := 2) 0 dk_Nm_placeOf_2 rfl rfl (nm_rok_isH ho0) ?_
  refine rn_iload_n (pc := 3) 2 dk_Nm_placeOf_3 rfl rfl ?_
  refine cl_Nm_357 (pc := 4) (As := [.int p2]) (st := []) o0 ho0 rfl (ct_Sh_number X o0 ho0 p2 σ) (Nat.le_trans (Nat.le_of_ble_eq_true rfl) hF0) rfl rfl (Nat.le_of_ble_eq_true rfl) dk_Nm_placeOf_4 (fun q1 => ?_)
  refine rn_istore (pc := 7) dk_Nm_placeOf_7 rfl rfl ?_
  refine rn_iconst (pc := 9) (0 : Int32) dk_Nm_placeOf_9 cn_i_0 ?_
  refine rn_istore (pc := 10) dk_Nm_placeOf_10 rfl rfl ?_
  refine rn_sub (by rfl) (r_Nm_placeOf_l12 X F hF0 o0 ho0 _ (fun e8 s7 => ?_) 400 p1 p2 (1 : Int32) q1.1 (0 : Int32) q1.2)
  refine rn_iload_n (pc := 55) 3 dk_Nm_placeOf_55 rfl rfl ?_
  exact rn_iret rfl dk_Nm_placeOf_56
theorem dk_Nm_triedAt_0 : decode mi_Nm_triedAt.2.1 0 = .ok (.iconst 0, 1) := by decide +kernel
theorem dk_Nm_triedAt_1 : decode mi_Nm_triedAt.2.1 1 = .ok (.istore_n 3, 1) := by decide +kernel
theorem dk_Nm_triedAt_2 : decode mi_Nm_triedAt.2.1 2 = .ok (.iload_n 3, 1) := by decide +kernel
theorem dk_Nm_triedAt_3 : decode mi_Nm_triedAt.2.1 3 = .ok (.iload_n 1, 1) := by decide +kernel
theorem dk_Nm_triedAt_4 : decode mi_Nm_triedAt.2.1 4 = .ok (.if_icmp .ge 23, 3) := by decide +kernel
theorem dk_Nm_triedAt_7 : decode mi_Nm_triedAt.2.1 7 = .ok (.aload_n 0, 1) := by decide +kernel
theorem dk_Nm_triedAt_8 : decode mi_Nm_triedAt.2.1 8 = .ok (.iload_n 1, 1) := by decide +kernel
theorem dk_Nm_triedAt_9 : decode mi_Nm_triedAt.2.1 9 = .ok (.iload_n 3, 1) := by decide +kernel
theorem dk_Nm_triedAt_10 : decode mi_Nm_triedAt.2.1 10 = .ok (.invokestatic 363, 3) := by decide +kernel
theorem dk_Nm_triedAt_13 : decode mi_Nm_triedAt.2.1 13 = .ok (.iload_n 2, 1) := by decide +kernel
theorem dk_Nm_triedAt_14 : decode mi_Nm_triedAt.2.1 14 = .ok (.iconst 1, 1) := by decide +kernel
theorem dk_Nm_triedAt_15 : decode mi_Nm_triedAt.2.1 15 = .ok (.iadd, 1) := by decide +kernel
theorem dk_Nm_triedAt_16 : decode mi_Nm_triedAt.2.1 16 = .ok (.if_icmp .ne 5, 3) := by decide +kernel
theorem dk_Nm_triedAt_19 : decode mi_Nm_triedAt.2.1 19 = .ok (.iload_n 3, 1) := by decide +kernel
theorem dk_Nm_triedAt_20 : decode mi_Nm_triedAt.2.1 20 = .ok (.ireturn, 1) := by decide +kernel
theorem dk_Nm_triedAt_21 : decode mi_Nm_triedAt.2.1 21 = .ok (.iinc 3 1, 3) := by decide +kernel
theorem dk_Nm_triedAt_24 : decode mi_Nm_triedAt.2.1 24 = .ok (.goto (-22), 3) := by decide +kernel
theorem dk_Nm_triedAt_27 : decode mi_Nm_triedAt.2.1 27 = .ok (.iconst (-1), 1) := by decide +kernel
theorem dk_Nm_triedAt_28 : decode mi_Nm_triedAt.2.1 28 = .ok (.ireturn, 1) := by decide +kernel
def Nm_triedAt_l2 (o0 : Nat) (k_27 : nm_St → Option (Int32 × nm_St)) : Nat → Int32 → Int32 → Int32 → nm_St → Option (Int32 × nm_St)
  | 0, _, _, _, _ => none
  | n + 1, x1, x2, x3, σ =>
    (if x1 ≤ x3 then
      k_27 σ
    else
      ((Nm_placeOf o0 x1 x3 σ).bind fun q2 =>
      (if q2.1 = (x2 + (1 : Int32)) then
        some (x3, q2.2)
      else
        (Nm_triedAt_l2 o0 k_27 n) x1 x2 (x3 + (1 : Int32)) q2.2)))
set_option maxRecDepth 100000 in
set_option maxHeartbeats 4000000 in
theorem r_Nm_triedAt_l2 (X : nm_X) (F : nm_F) (hF0 : 2 ≤ nm_d F) (o0 : Nat) (ho0 : nm_isH o0 = true) (k_27 : nm_St → Option (Int32 × nm_St)) (hk_27 : ∀ (σ : nm_St), Rn X mi_Nm_triedAt F (nm_Qf X F nm_wI) [] [] 27 σ (k_27 σ)) : ∀ (n : Nat) (x1 : Int32) (x2 : Int32) (x3 : Int32) (σ : nm_St), Rn X mi_Nm_triedAt F (nm_Qf X F nm_wI) [(0, .ref o0), (1, .int x1), (2, .int x2), (3, .int x3)] [] 2 σ (Nm_triedAt_l2 o0 k_27 n x1 x2 x3 σ) := by
  intro n
  induction n with
  | zero =>
    intro x1 x2 x3 σ
    exact rn_none
  | succ n ih =>
    intro x1 x2 x3 σ
    unfold Nm_triedAt_l2
    refine rn_iload_n (pc := 2) 3 dk_Nm_triedAt_2 rfl rfl ?_
    refine rn_iload_n (pc := 3) 1 dk_Nm_triedAt_3 rfl rfl ?_
    refine rn_icmp_ge (pc := 4) 27 dk_Nm_triedAt_4 (by decide) (fun c1 => ?_) (fun c1 => ?_)
    · exact rn_sub (by rfl) (hk_27 σ)
    · refine rn_aload_n (pc := 7) 0 dk_Nm_triedAt_7 rfl rfl (nm_rok_isH ho0) ?_
      refine rn_iload_n (pc := 8) 1 dk_Nm_triedAt_8 rfl rfl ?_
      refine rn_iload_n (pc := 9) 3 dk_Nm_triedAt_9 rfl rfl ?_
      refine cl_Nm_363 (pc := 10) (As := [.ref o0, .int x1, .int x3]) (st := []) rfl (ct_Nm_placeOf X o0 ho0 x1 x3 σ) (Nat.le_trans (Nat.le_of_ble_eq_true rfl) hF0) rfl rfl (Nat.le_of_ble_eq_true rfl) dk_Nm_triedAt_10 (fun q2 => ?_)
      refine rn_iload_n (pc := 13) 2 dk_Nm_triedAt_13 rfl rfl ?_
      refine rn_iconst (pc := 14) (1 : Int32) dk_Nm_triedAt_14 cn_i_1 ?_
      refine rn_iadd (pc := 15) dk_Nm_triedAt_15 ?_
      refine rn_icmp_ne (pc := 16) 21 dk_Nm_triedAt_16 (by decide) (fun c3 => ?_) (fun c3 => ?_)
      · refine rn_iinc (pc := 21) (1 : Int32) dk_Nm_triedAt_21 cn_i_1 rfl rfl rfl ?_
        refine rn_goto (pc := 24) 2 dk_Nm_triedAt_24 (by decide) ?_
        exact rn_sub (by rfl) (ih x1 x2 (x3 + (1 : Int32)) q2.2)
      · refine rn_iload_n (pc := 19) 3 dk_Nm_triedAt_19 rfl rfl ?_
        exact rn_iret rfl dk_Nm_triedAt_20
def Nm_triedAt (o0 : Nat) (p1 : Int32) (p2 : Int32) (σ : nm_St) : Option (Int32 × nm_St) :=
  Nm_triedAt_l2 o0 (fun (s4 : nm_St) =>
    some ((-1 : Int32), s4)) 400 p1 p2 (0 : Int32) σ
set_option maxRecDepth 100000 in
set_option maxHeartbeats 4000000 in
theorem ct_Nm_triedAt (X : nm_X) (o0 : Nat) (ho0 : nm_isH o0 = true) (p1 : Int32) (p2 : Int32) (σ : nm_St) : Ct X mi_Nm_triedAt 2 nm_wI [.ref o0, .int p1, .int p2] σ (Nm_triedAt o0 p1 p2 σ) := by
  refine Ct.of (by decide +kernel) rfl (fun F hF0 => ?_)
  unfold Nm_triedAt
  refine rn_iconst (pc := 0) (0 : Int32) dk_Nm_triedAt_0 cn_i_0 ?_
  refine rn_istore_n (pc := 1) 3 dk_Nm_triedAt_1 rfl rfl rfl ?_
  refine rn_sub (by rfl) (r_Nm_triedAt_l2 X F hF0 o0 ho0 _ (fun s4 => ?_) 400 p1 p2 (0 : Int32) σ)
  refine rn_iconst (pc := 27) (-1 : Int32) dk_Nm_triedAt_27 cn_i_m1 ?_
  exact rn_iret rfl dk_Nm_triedAt_28
theorem dk_Nm_triesOnTheMean_0 : decode mi_Nm_triesOnTheMean.2.1 0 = .ok (.iconst 0, 1) := by decide +kernel
theorem dk_Nm_triesOnTheMean_1 : decode mi_Nm_triesOnTheMean.2.1 1 = .ok (.istore_n 2, 1) := by decide +kernel
theorem dk_Nm_triesOnTheMean_2 : decode mi_Nm_triesOnTheMean.2.1 2 = .ok (.iconst 0, 1) := by decide +kernel
theorem dk_Nm_triesOnTheMean_3 : decode mi_Nm_triesOnTheMean.2.1 3 = .ok (.istore_n 3, 1) := by decide +kernel
theorem dk_Nm_triesOnTheMean_4 : decode mi_Nm_triesOnTheMean.2.1 4 = .ok (.iload_n 3, 1) := by decide +kernel
theorem dk_Nm_triesOnTheMean_5 : decode mi_Nm_triesOnTheMean.2.1 5 = .ok (.iload_n 1, 1) := by decide +kernel
theorem dk_Nm_triesOnTheMean_6 : decode mi_Nm_triesOnTheMean.2.1 6 = .ok (.if_icmp .ge 24, 3) := by decide +kernel
theorem dk_Nm_triesOnTheMean_9 : decode mi_Nm_triesOnTheMean.2.1 9 = .ok (.iload_n 2, 1) := by decide +kernel
theorem dk_Nm_triesOnTheMean_10 : decode mi_Nm_triesOnTheMean.2.1 10 = .ok (.aload_n 0, 1) := by decide +kernel
theorem dk_Nm_triesOnTheMean_11 : decode mi_Nm_triesOnTheMean.2.1 11 = .ok (.iload_n 3, 1) := by decide +kernel
theorem dk_Nm_triesOnTheMean_12 : decode mi_Nm_triesOnTheMean.2.1 12 = .ok (.invokevirtual 357, 3) := by decide +kernel
theorem dk_Nm_triesOnTheMean_15 : decode mi_Nm_triesOnTheMean.2.1 15 = .ok (.aload_n 0, 1) := by decide +kernel
theorem dk_Nm_triesOnTheMean_16 : decode mi_Nm_triesOnTheMean.2.1 16 = .ok (.iload_n 1, 1) := by decide +kernel
theorem dk_Nm_triesOnTheMean_17 : decode mi_Nm_triesOnTheMean.2.1 17 = .ok (.iload_n 3, 1) := by decide +kernel
theorem dk_Nm_triesOnTheMean_18 : decode mi_Nm_triesOnTheMean.2.1 18 = .ok (.invokestatic 363, 3) := by decide +kernel
theorem dk_Nm_triesOnTheMean_21 : decode mi_Nm_triesOnTheMean.2.1 21 = .ok (.imul, 1) := by decide +kernel
theorem dk_Nm_triesOnTheMean_22 : decode mi_Nm_triesOnTheMean.2.1 22 = .ok (.iadd, 1) := by decide +kernel
theorem dk_Nm_triesOnTheMean_23 : decode mi_Nm_triesOnTheMean.2.1 23 = .ok (.istore_n 2, 1) := by decide +kernel
theorem dk_Nm_triesOnTheMean_24 : decode mi_Nm_triesOnTheMean.2.1 24 = .ok (.iinc 3 1, 3) := by decide +kernel
theorem dk_Nm_triesOnTheMean_27 : decode mi_Nm_triesOnTheMean.2.1 27 = .ok (.goto (-23), 3) := by decide +kernel
theorem dk_Nm_triesOnTheMean_30 : decode mi_Nm_triesOnTheMean.2.1 30 = .ok (.aload_n 0, 1) := by decide +kernel
theorem dk_Nm_triesOnTheMean_31 : decode mi_Nm_triesOnTheMean.2.1 31 = .ok (.iload_n 1, 1) := by decide +kernel
theorem dk_Nm_triesOnTheMean_32 : decode mi_Nm_triesOnTheMean.2.1 32 = .ok (.invokestatic 360, 3) := by decide +kernel
theorem dk_Nm_triesOnTheMean_35 : decode mi_Nm_triesOnTheMean.2.1 35 = .ok (.istore_n 3, 1) := by decide +kernel
theorem dk_Nm_triesOnTheMean_36 : decode mi_Nm_triesOnTheMean.2.1 36 = .ok (.iload_n 3, 1) := by decide +kernel
theorem dk_Nm_triesOnTheMean_37 : decode mi_Nm_triesOnTheMean.2.1 37 = .ok (.ifCond .le 13, 3) := by decide +kernel
theorem dk_Nm_triesOnTheMean_40 : decode mi_Nm_triesOnTheMean.2.1 40 = .ok (.iload_n 2, 1) := by decide +kernel
theorem dk_Nm_triesOnTheMean_41 : decode mi_Nm_triesOnTheMean.2.1 41 = .ok (.sipush 1000, 3) := by decide +kernel
theorem dk_Nm_triesOnTheMean_44 : decode mi_Nm_triesOnTheMean.2.1 44 = .ok (.imul, 1) := by decide +kernel
theorem dk_Nm_triesOnTheMean_45 : decode mi_Nm_triesOnTheMean.2.1 45 = .ok (.iload_n 3, 1) := by decide +kernel
theorem dk_Nm_triesOnTheMean_46 : decode mi_Nm_triesOnTheMean.2.1 46 = .ok (.idiv, 1) := by decide +kernel
theorem dk_Nm_triesOnTheMean_47 : decode mi_Nm_triesOnTheMean.2.1 47 = .ok (.goto 4, 3) := by decide +kernel
theorem dk_Nm_triesOnTheMean_50 : decode mi_Nm_triesOnTheMean.2.1 50 = .ok (.iconst 0, 1) := by decide +kernel
theorem dk_Nm_triesOnTheMean_51 : decode mi_Nm_triesOnTheMean.2.1 51 = .ok (.ireturn, 1) := by decide +kernel
def Nm_triesOnTheMean_l4 (o0 : Nat) (k_30 : Int32 → Int32 → nm_St → Option (Int32 × nm_St)) : Nat → Int32 → Int32 → Int32 → nm_St → Option (Int32 × nm_St)
  | 0, _, _, _, _ => none
  | n + 1, x1, x2, x3, σ =>
    (if x1 ≤ x3 then
      k_30 x1 x2 σ
    else
      ((Sh_number o0 x3 σ).bind fun q2 =>
      ((Nm_placeOf o0 x1 x3 q2.2).bind fun q3 =>
      (nm_let ((x2 + (q2.1 * q3.1))) fun v4 =>
      (Nm_triesOnTheMean_l4 o0 k_30 n) x1 v4 (x3 + (1 : Int32)) q3.2))))
set_option maxRecDepth 100000 in
set_option maxHeartbeats 4000000 in
theorem r_Nm_triesOnTheMean_l4 (X : nm_X) (F : nm_F) (hF0 : 2 ≤ nm_d F) (o0 : Nat) (ho0 : nm_isH o0 = true) (k_30 : Int32 → Int32 → nm_St → Option (Int32 × nm_St)) (hk_30 : ∀ (x1 : Int32) (x2 : Int32) (σ : nm_St), Rn X mi_Nm_triesOnTheMean F (nm_Qf X F nm_wI) [(0, .ref o0), (1, .int x1), (2, .int x2)] [] 30 σ (k_30 x1 x2 σ)) : ∀ (n : Nat) (x1 : Int32) (x2 : Int32) (x3 : Int32) (σ : nm_St), Rn X mi_Nm_triesOnTheMean F (nm_Qf X F nm_wI) [(0, .ref o0), (1, .int x1), (2, .int x2), (3, .int x3)] [] 4 σ (Nm_triesOnTheMean_l4 o0 k_30 n x1 x2 x3 σ) := by
  intro n
  induction n with
  | zero =>
    intro x1 x2 x3 σ
    exact rn_none
  | succ n ih =>
    intro x1 x2 x3 σ
    unfold Nm_triesOnTheMean_l4
    refine rn_iload_n (pc := 4) 3 dk_Nm_triesOnTheMean_4 rfl rfl ?_
    refine rn_iload_n (pc := 5) 1 dk_Nm_triesOnTheMean_5 rfl rfl ?_
    refine rn_icmp_ge (pc := 6) 30 dk_Nm_triesOnTheMean_6 (by decide) (fun c1 => ?_) (fun c1 => ?_)
    · exact rn_sub (by rfl) (hk_30 x1 x2 σ)
    · refine rn_iload_n (pc := 9) 2 dk_Nm_triesOnTheMean_9 rfl rfl ?_
      refine rn_aload_n (pc := 10) 0 dk_Nm_triesOnTheMean_10 rfl rfl (nm_rok_isH ho0) ?_
      refine rn_iload_n (pc := 11) 3 dk_Nm_triesOnTheMean_11 rfl rfl ?_
      refine cl_Nm_357 (pc := 12) (As := [.int x3]) (st := [.int x2]) o0 ho0 rfl (ct_Sh_number X o0 ho0 x3 σ) (Nat.le_trans (Nat.le_of_ble_eq_true rfl) hF0) rfl rfl (Nat.le_of_ble_eq_true rfl) dk_Nm_triesOnTheMean_12 (fun q2 => ?_)
      refine rn_aload_n (pc := 15) 0 dk_Nm_triesOnTheMean_15 rfl rfl (nm_rok_isH ho0) ?_
      refine rn_iload_n (pc := 16) 1 dk_Nm_triesOnTheMean_16 rfl rfl ?_
      refine rn_iload_n (pc := 17) 3 dk_Nm_triesOnTheMean_17 rfl rfl ?_
      refine cl_Nm_363 (pc := 18) (As := [.ref o0, .int x1, .int x3]) (st := [.int q2.1, .int x2]) rfl (ct_Nm_placeOf X o0 ho0 x1 x3 q2.2) (Nat.le_trans (Nat.le_of_ble_eq_true rfl) hF0) rfl rfl (Nat.le_of_ble_eq_true rfl) dk_Nm_triesOnTheMean_18 (fun q3 => ?_)
      refine rn_imul (pc := 21) dk_Nm_triesOnTheMean_21 ?_
      refine rn_iadd (pc := 22) dk_Nm_triesOnTheMean_22 ?_
      refine rn_leti (fun v4 => ?_)
      refine rn_istore_n (pc := 23) 2 dk_Nm_triesOnTheMean_23 rfl rfl rfl ?_
      refine rn_iinc (pc := 24) (1 : Int32) dk_Nm_triesOnTheMean_24 cn_i_1 rfl rfl rfl ?_
      refine rn_goto (pc := 27) 4 dk_Nm_triesOnTheMean_27 (by decide) ?_
      exact rn_sub (by rfl) (ih x1 v4 (x3 + (1 : Int32)) q3.2)
def Nm_triesOnTheMean (o0 : Nat) (p1 : Int32) (σ : nm_St) : Option (Int32 × nm_St) :=
  Nm_triesOnTheMean_l4 o0 (fun (e6 : Int32) (e7 : Int32) (s5 : nm_St) =>
    ((Nm_allWeights o0 e6 s5).bind fun q8 =>
    (if q8.1 ≤ 0 then
      some ((0 : Int32), q8.2)
    else
      (nm_g (!decide (q8.1 = 0)) (
      some (((e7 * (1000 : Int32)) / q8.1), q8.2)))))) 400 p1 (0 : Int32) (0 : Int32) σ
set_option maxRecDepth 100000 in
set_option maxHeartbeats 4000000 in
theorem ct_Nm_triesOnTheMean (X : nm_X) (o0 : Nat) (ho0 : nm_isH o0 = true) (p1 : Int32) (σ : nm_St) : Ct X mi_Nm_triesOnTheMean 2 nm_wI [.ref o0, .int p1] σ (Nm_triesOnTheMean o0 p1 σ) := by
  refine Ct.of (by decide +kernel) rfl (fun F hF0 => ?_)
  unfold Nm_triesOnTheMean
  refine rn_iconst (pc := 0) (0 : Int32) dk_Nm_triesOnTheMean_0 cn_i_0 ?_
  refine rn_istore_n (pc := 1) 2 dk_Nm_triesOnTheMean_1 rfl rfl rfl ?_
  refine rn_iconst (pc := 2) (0 : Int32) dk_Nm_triesOnTheMean_2 cn_i_0 ?_
  refine rn_istore_n (pc := 3) 3 dk_Nm_triesOnTheMean_3 rfl rfl rfl ?_
  refine rn_sub (by rfl) (r_Nm_triesOnTheMean_l4 X F hF0 o0 ho0 _ (fun e6 e7 s5 => ?_) 400 p1 (0 : Int32) (0 : Int32) σ)
  refine rn_aload_n (pc := 30) 0 dk_Nm_triesOnTheMean_30 rfl rfl (nm_rok_isH ho0) ?_
  refine rn_iload_n (pc := 31) 1 dk_Nm_triesOnTheMean_31 rfl rfl ?_
  refine cl_Nm_360 (pc := 32) (As := [.ref o0, .int e6]) (st := []) rfl (ct_Nm_allWeights X o0 ho0 e6 s5) (Nat.le_trans (Nat.le_of_ble_eq_true rfl) hF0) rfl rfl (Nat.le_of_ble_eq_true rfl) dk_Nm_triesOnTheMean_32 (fun q8 => ?_)
  refine rn_istore_n (pc := 35) 3 dk_Nm_triesOnTheMean_35 rfl rfl rfl ?_
  refine rn_iload_n (pc := 36) 3 dk_Nm_triesOnTheMean_36 rfl rfl ?_
  refine rn_if_le (pc := 37) 50 dk_Nm_triesOnTheMean_37 (by decide) (fun c9 => ?_) (fun c9 => ?_)
  · refine rn_iconst (pc := 50) (0 : Int32) dk_Nm_triesOnTheMean_50 cn_i_0 ?_
    exact rn_iret rfl dk_Nm_triesOnTheMean_51
  · refine rn_iload_n (pc := 40) 2 dk_Nm_triesOnTheMean_40 rfl rfl ?_
    refine rn_sipush (pc := 41) (1000 : Int32) dk_Nm_triesOnTheMean_41 cn_s_1000 ?_
    refine rn_imul (pc := 44) dk_Nm_triesOnTheMean_44 ?_
    refine rn_iload_n (pc := 45) 3 dk_Nm_triesOnTheMean_45 rfl rfl ?_
    refine rn_idiv (pc := 46) dk_Nm_triesOnTheMean_46 ?_
    refine rn_goto (pc := 47) 51 dk_Nm_triesOnTheMean_47 (by decide) ?_
    exact rn_iret rfl dk_Nm_triesOnTheMean_51
theorem dk_Nm_tries_0 : decode mi_Nm_tries.2.1 0 = .ok (.aload_n 0, 1) := by decide +kernel
theorem dk_Nm_tries_1 : decode mi_Nm_tries.2.1 1 = .ok (.iload_n 1, 1) := by decide +kernel
theorem dk_Nm_tries_2 : decode mi_Nm_tries.2.1 2 = .ok (.invokevirtual 81, 3) := by decide +kernel
theorem dk_Nm_tries_5 : decode mi_Nm_tries.2.1 5 = .ok (.istore_n 3, 1) := by decide +kernel
theorem dk_Nm_tries_6 : decode mi_Nm_tries.2.1 6 = .ok (.iload_n 3, 1) := by decide +kernel
theorem dk_Nm_tries_7 : decode mi_Nm_tries.2.1 7 = .ok (.ifCond .ne 41, 3) := by decide +kernel
theorem dk_Nm_tries_10 : decode mi_Nm_tries.2.1 10 = .ok (.aload_n 0, 1) := by decide +kernel
theorem dk_Nm_tries_11 : decode mi_Nm_tries.2.1 11 = .ok (.getfield 18, 3) := by decide +kernel
theorem dk_Nm_tries_14 : decode mi_Nm_tries.2.1 14 = .ok (.getfield 155, 3) := by decide +kernel
theorem dk_Nm_tries_17 : decode mi_Nm_tries.2.1 17 = .ok (.aload_n 0, 1) := by decide +kernel
theorem dk_Nm_tries_18 : decode mi_Nm_tries.2.1 18 = .ok (.getfield 11, 3) := by decide +kernel
theorem dk_Nm_tries_21 : decode mi_Nm_tries.2.1 21 = .ok (.iload_n 1, 1) := by decide +kernel
theorem dk_Nm_tries_22 : decode mi_Nm_tries.2.1 22 = .ok (.aaload, 1) := by decide +kernel
theorem dk_Nm_tries_23 : decode mi_Nm_tries.2.1 23 = .ok (.getfield 272, 3) := by decide +kernel
theorem dk_Nm_tries_26 : decode mi_Nm_tries.2.1 26 = .ok (.if_icmp .gt 19, 3) := by decide +kernel
theorem dk_Nm_tries_29 : decode mi_Nm_tries.2.1 29 = .ok (.iload_n 2, 1) := by decide +kernel
theorem dk_Nm_tries_30 : decode mi_Nm_tries.2.1 30 = .ok (.iconst (-1), 1) := by decide +kernel
theorem dk_Nm_tries_31 : decode mi_Nm_tries.2.1 31 = .ok (.if_icmp .eq 17, 3) := by decide +kernel
theorem dk_Nm_tries_34 : decode mi_Nm_tries.2.1 34 = .ok (.aload_n 0, 1) := by decide +kernel
theorem dk_Nm_tries_35 : decode mi_Nm_tries.2.1 35 = .ok (.getfield 18, 3) := by decide +kernel
theorem dk_Nm_tries_38 : decode mi_Nm_tries.2.1 38 = .ok (.iload_n 2, 1) := by decide +kernel
theorem dk_Nm_tries_39 : decode mi_Nm_tries.2.1 39 = .ok (.invokevirtual 158, 3) := by decide +kernel
theorem dk_Nm_tries_42 : decode mi_Nm_tries.2.1 42 = .ok (.ifCond .ne 6, 3) := by decide +kernel
theorem dk_Nm_tries_45 : decode mi_Nm_tries.2.1 45 = .ok (.bipush (-5), 2) := by decide +kernel
theorem dk_Nm_tries_47 : decode mi_Nm_tries.2.1 47 = .ok (.istore_n 3, 1) := by decide +kernel
theorem dk_Nm_tries_48 : decode mi_Nm_tries.2.1 48 = .ok (.iload_n 3, 1) := by decide +kernel
theorem dk_Nm_tries_49 : decode mi_Nm_tries.2.1 49 = .ok (.ifCond .ne 25, 3) := by decide +kernel
theorem dk_Nm_tries_52 : decode mi_Nm_tries.2.1 52 = .ok (.aload_n 0, 1) := by decide +kernel
theorem dk_Nm_tries_53 : decode mi_Nm_tries.2.1 53 = .ok (.getfield 11, 3) := by decide +kernel
theorem dk_Nm_tries_56 : decode mi_Nm_tries.2.1 56 = .ok (.iload_n 1, 1) := by decide +kernel
theorem dk_Nm_tries_57 : decode mi_Nm_tries.2.1 57 = .ok (.aaload, 1) := by decide +kernel
theorem dk_Nm_tries_58 : decode mi_Nm_tries.2.1 58 = .ok (.aload_n 0, 1) := by decide +kernel
theorem dk_Nm_tries_59 : decode mi_Nm_tries.2.1 59 = .ok (.getfield 18, 3) := by decide +kernel
theorem dk_Nm_tries_62 : decode mi_Nm_tries.2.1 62 = .ok (.getfield 155, 3) := by decide +kernel
theorem dk_Nm_tries_65 : decode mi_Nm_tries.2.1 65 = .ok (.invokestatic 275, 3) := by decide +kernel
theorem dk_Nm_tries_68 : decode mi_Nm_tries.2.1 68 = .ok (.ifCond .ne 6, 3) := by decide +kernel
theorem dk_Nm_tries_71 : decode mi_Nm_tries.2.1 71 = .ok (.bipush (-6), 2) := by decide +kernel
theorem dk_Nm_tries_73 : decode mi_Nm_tries.2.1 73 = .ok (.istore_n 3, 1) := by decide +kernel
theorem dk_Nm_tries_74 : decode mi_Nm_tries.2.1 74 = .ok (.iload_n 3, 1) := by decide +kernel
theorem dk_Nm_tries_75 : decode mi_Nm_tries.2.1 75 = .ok (.ifCond .eq 9, 3) := by decide +kernel
theorem dk_Nm_tries_78 : decode mi_Nm_tries.2.1 78 = .ok (.aload_n 0, 1) := by decide +kernel
theorem dk_Nm_tries_79 : decode mi_Nm_tries.2.1 79 = .ok (.iload_n 3, 1) := by decide +kernel
theorem dk_Nm_tries_80 : decode mi_Nm_tries.2.1 80 = .ok (.invokevirtual 73, 3) := by decide +kernel
theorem dk_Nm_tries_83 : decode mi_Nm_tries.2.1 83 = .ok (.ireturn, 1) := by decide +kernel
theorem dk_Nm_tries_84 : decode mi_Nm_tries.2.1 84 = .ok (.iload_n 2, 1) := by decide +kernel
theorem dk_Nm_tries_85 : decode mi_Nm_tries.2.1 85 = .ok (.iconst (-1), 1) := by decide +kernel
theorem dk_Nm_tries_86 : decode mi_Nm_tries.2.1 86 = .ok (.if_icmp .ne 22, 3) := by decide +kernel
theorem dk_Nm_tries_89 : decode mi_Nm_tries.2.1 89 = .ok (.aload_n 0, 1) := by decide +kernel
theorem dk_Nm_tries_90 : decode mi_Nm_tries.2.1 90 = .ok (.getfield 11, 3) := by decide +kernel
theorem dk_Nm_tries_93 : decode mi_Nm_tries.2.1 93 = .ok (.iload_n 1, 1) := by decide +kernel
theorem dk_Nm_tries_94 : decode mi_Nm_tries.2.1 94 = .ok (.aaload, 1) := by decide +kernel
theorem dk_Nm_tries_95 : decode mi_Nm_tries.2.1 95 = .ok (.aload_n 0, 1) := by decide +kernel
theorem dk_Nm_tries_96 : decode mi_Nm_tries.2.1 96 = .ok (.getfield 18, 3) := by decide +kernel
theorem dk_Nm_tries_99 : decode mi_Nm_tries.2.1 99 = .ok (.getfield 155, 3) := by decide +kernel
theorem dk_Nm_tries_102 : decode mi_Nm_tries.2.1 102 = .ok (.invokestatic 278, 3) := by decide +kernel
theorem dk_Nm_tries_105 : decode mi_Nm_tries.2.1 105 = .ok (.goto 20, 3) := by decide +kernel
theorem dk_Nm_tries_108 : decode mi_Nm_tries.2.1 108 = .ok (.aload_n 0, 1) := by decide +kernel
theorem dk_Nm_tries_109 : decode mi_Nm_tries.2.1 109 = .ok (.getfield 11, 3) := by decide +kernel
theorem dk_Nm_tries_112 : decode mi_Nm_tries.2.1 112 = .ok (.iload_n 1, 1) := by decide +kernel
theorem dk_Nm_tries_113 : decode mi_Nm_tries.2.1 113 = .ok (.aaload, 1) := by decide +kernel
theorem dk_Nm_tries_114 : decode mi_Nm_tries.2.1 114 = .ok (.aload_n 0, 1) := by decide +kernel
theorem dk_Nm_tries_115 : decode mi_Nm_tries.2.1 115 = .ok (.getfield 18, 3) := by decide +kernel
theorem dk_Nm_tries_118 : decode mi_Nm_tries.2.1 118 = .ok (.getfield 155, 3) := by decide +kernel
theorem dk_Nm_tries_121 : decode mi_Nm_tries.2.1 121 = .ok (.iload_n 2, 1) := by decide +kernel
theorem dk_Nm_tries_122 : decode mi_Nm_tries.2.1 122 = .ok (.invokestatic 282, 3) := by decide +kernel
theorem dk_Nm_tries_125 : decode mi_Nm_tries.2.1 125 = .ok (.ireturn, 1) := by decide +kernel
def Nm_tries_j74 (x1 : Int32) (x2 : Int32) (x3 : Int32) (σ : nm_St) : Option (Int32 × nm_St) :=
  (if x3 = 0 then
    (if x2 = (-1 : Int32) then
      (nm_g (nm_in x1 8) (
      ((Nm_triesOnTheMean (nm_sf x1) (σ.1 2 7) σ).bind fun q9 =>
      some (q9.1, q9.2))))
    else
      (nm_g (nm_in x1 8) (
      ((Nm_triedAt (nm_sf x1) (σ.1 2 7) x2 σ).bind fun q7 =>
      some (q7.1, q7.2)))))
  else
    ((Nm_refuse x3 σ).bind fun q10 =>
    some (q10.1, q10.2)))
set_option maxRecDepth 100000 in
set_option maxHeartbeats 4000000 in
theorem r_Nm_tries_j74 (X : nm_X) (F : nm_F) (hF0 : 3 ≤ nm_d F) (x1 : Int32) (x2 : Int32) (x3 : Int32) (σ : nm_St) : Rn X mi_Nm_tries F (nm_Qf X F nm_wI) [(0, .ref 0), (1, .int x1), (2, .int x2), (3, .int x3)] [] 74 σ (Nm_tries_j74 x1 x2 x3 σ) := by
  unfold Nm_tries_j74
  refine rn_iload_n (pc := 74) 3 dk_Nm_tries_74 rfl rfl ?_
  refine rn_if_eq (pc := 75) 84 dk_Nm_tries_75 (by decide) (fun c4 => ?_) (fun c4 => ?_)
  · refine rn_iload_n (pc := 84) 2 dk_Nm_tries_84 rfl rfl ?_
    refine rn_iconst (pc := 85) (-1 : Int32) dk_Nm_tries_85 cn_i_m1 ?_
    refine rn_icmp_ne (pc := 86) 108 dk_Nm_tries_86 (by decide) (fun c5 => ?_) (fun c5 => ?_)
    · refine rn_aload_n (pc := 108) 0 dk_Nm_tries_108 rfl rfl rfl ?_
      refine gf_Nm_11 (pc := 109) rfl dk_Nm_tries_109 ?_
      refine rn_iload_n (pc := 112) 1 dk_Nm_tries_112 rfl rfl ?_
      refine rn_aaload (pc := 113) dk_Nm_tries_113 (fun g6 => ?_)
      refine rn_aload_n (pc := 114) 0 dk_Nm_tries_114 rfl rfl rfl ?_
      refine gf_Nm_18 (pc := 115) rfl dk_Nm_tries_115 ?_
      refine gf_Nm_155 (pc := 118) 2 rfl rfl dk_Nm_tries_118 ?_
      refine rn_iload_n (pc := 121) 2 dk_Nm_tries_121 rfl rfl ?_
      refine cl_Nm_282 (pc := 122) (As := [.ref (nm_sf x1), .int (σ.1 2 7), .int x2]) (st := []) rfl (ct_Nm_triedAt X (nm_sf x1) (nm_sf_isH g6) (σ.1 2 7) x2 σ) (Nat.le_trans (Nat.le_of_ble_eq_true rfl) hF0) rfl rfl (Nat.le_of_ble_eq_true rfl) dk_Nm_tries_122 (fun q7 => ?_)
      exact rn_iret rfl dk_Nm_tries_125
    · refine rn_aload_n (pc := 89) 0 dk_Nm_tries_89 rfl rfl rfl ?_
      refine gf_Nm_11 (pc := 90) rfl dk_Nm_tries_90 ?_
      refine rn_iload_n (pc := 93) 1 dk_Nm_tries_93 rfl rfl ?_
      refine rn_aaload (pc := 94) dk_Nm_tries_94 (fun g8 => ?_)
      refine rn_aload_n (pc := 95) 0 dk_Nm_tries_95 rfl rfl rfl ?_
      refine gf_Nm_18 (pc := 96) rfl dk_Nm_tries_96 ?_
      refine gf_Nm_155 (pc := 99) 2 rfl rfl dk_Nm_tries_99 ?_
      refine cl_Nm_278 (pc := 102) (As := [.ref (nm_sf x1), .int (σ.1 2 7)]) (st := []) rfl (ct_Nm_triesOnTheMean X (nm_sf x1) (nm_sf_isH g8) (σ.1 2 7) σ) (Nat.le_trans (Nat.le_of_ble_eq_true rfl) hF0) rfl rfl (Nat.le_of_ble_eq_true rfl) dk_Nm_tries_102 (fun q9 => ?_)
      refine rn_goto (pc := 105) 125 dk_Nm_tries_105 (by decide) ?_
      exact rn_iret rfl dk_Nm_tries_125
  · refine rn_aload_n (pc := 78) 0 dk_Nm_tries_78 rfl rfl rfl ?_
    refine rn_iload_n (pc := 79) 3 dk_Nm_tries_79 rfl rfl ?_
    refine cl_Nm_73 (pc := 80) (As := [.int x3]) (st := []) rfl (ct_Nm_refuse X x3 σ) (Nat.le_trans (Nat.le_of_ble_eq_true rfl) hF0) rfl rfl (Nat.le_of_ble_eq_true rfl) dk_Nm_tries_80 (fun q10 => ?_)
    exact rn_iret rfl dk_Nm_tries_83
def Nm_tries_j48 (x1 : Int32) (x2 : Int32) (x3 : Int32) (σ : nm_St) : Option (Int32 × nm_St) :=
  (if x3 = 0 then
    (nm_g (nm_in x1 8) (
    ((Nm_areWeights (nm_sf x1) (σ.1 2 7) σ).bind fun q12 =>
    (if q12.1 = 0 then
      Nm_tries_j74 x1 x2 (-6 : Int32) q12.2
    else
      Nm_tries_j74 x1 x2 x3 q12.2))))
  else
    Nm_tries_j74 x1 x2 x3 σ)
set_option maxRecDepth 100000 in
set_option maxHeartbeats 4000000 in
theorem r_Nm_tries_j48 (X : nm_X) (F : nm_F) (hF0 : 3 ≤ nm_d F) (x1 : Int32) (x2 : Int32) (x3 : Int32) (σ : nm_St) : Rn X mi_Nm_tries F (nm_Qf X F nm_wI) [(0, .ref 0), (1, .int x1), (2, .int x2), (3, .int x3)] [] 48 σ (Nm_tries_j48 x1 x2 x3 σ) := by
  unfold Nm_tries_j48
  refine rn_iload_n (pc := 48) 3 dk_Nm_tries_48 rfl rfl ?_
  refine rn_if_ne (pc := 49) 74 dk_Nm_tries_49 (by decide) (fun c3 => ?_) (fun c3 => ?_)
  · exact rn_sub (by rfl) (r_Nm_tries_j74 X F hF0 x1 x2 x3 σ)
  · refine rn_aload_n (pc := 52) 0 dk_Nm_tries_52 rfl rfl rfl ?_
    refine gf_Nm_11 (pc := 53) rfl dk_Nm_tries_53 ?_
    refine rn_iload_n (pc := 56) 1 dk_Nm_tries_56 rfl rfl ?_
    refine rn_aaload (pc := 57) dk_Nm_tries_57 (fun g11 => ?_)
    refine rn_aload_n (pc := 58) 0 dk_Nm_tries_58 rfl rfl rfl ?_
    refine gf_Nm_18 (pc := 59) rfl dk_Nm_tries_59 ?_
    refine gf_Nm_155 (pc := 62) 2 rfl rfl dk_Nm_tries_62 ?_
    refine cl_Nm_275 (pc := 65) (As := [.ref (nm_sf x1), .int (σ.1 2 7)]) (st := []) rfl (ct_Nm_areWeights X (nm_sf x1) (nm_sf_isH g11) (σ.1 2 7) σ) (Nat.le_trans (Nat.le_of_ble_eq_true rfl) hF0) rfl rfl (Nat.le_of_ble_eq_true rfl) dk_Nm_tries_65 (fun q12 => ?_)
    refine rn_if_ne (pc := 68) 74 dk_Nm_tries_68 (by decide) (fun c13 => ?_) (fun c13 => ?_)
    · exact rn_sub (by rfl) (r_Nm_tries_j74 X F hF0 x1 x2 x3 q12.2)
    · refine rn_bipush (pc := 71) (-6 : Int32) dk_Nm_tries_71 cn_b_m6 ?_
      refine rn_istore_n (pc := 73) 3 dk_Nm_tries_73 rfl rfl rfl ?_
      exact rn_sub (by rfl) (r_Nm_tries_j74 X F hF0 x1 x2 (-6 : Int32) q12.2)
def Nm_tries_j45 (x1 : Int32) (x2 : Int32) (σ : nm_St) : Option (Int32 × nm_St) :=
  Nm_tries_j48 x1 x2 (-5 : Int32) σ
set_option maxRecDepth 100000 in
set_option maxHeartbeats 4000000 in
theorem r_Nm_tries_j45 (X : nm_X) (F : nm_F) (hF0 : 3 ≤ nm_d F) (x1 : Int32) (x2 : Int32) (σ : nm_St) : Rn X mi_Nm_tries F (nm_Qf X F nm_wI) [(0, .ref 0), (1, .int x1), (2, .int x2)] [] 45 σ (Nm_tries_j45 x1 x2 σ) := by
  unfold Nm_tries_j45
  refine rn_bipush (pc := 45) (-5 : Int32) dk_Nm_tries_45 cn_b_m5 ?_
  refine rn_istore_n (pc := 47) 3 dk_Nm_tries_47 rfl rfl rfl ?_
  exact rn_sub (by rfl) (r_Nm_tries_j48 X F hF0 x1 x2 (-5 : Int32) σ)
def Nm_tries (p1 : Int32) (p2 : Int32) (σ : nm_St) : Option (Int32 × nm_St) :=
  ((Nm_checkRow p1 σ).bind fun q1 =>
  (if q1.1 = 0 then
    (nm_g (nm_in p1 8) (
    (if (q1.2.1 (nm_sf p1) 3) < (q1.2.1 2 7) then
      Nm_tries_j45 p1 p2 q1.2
    else
      (if p2 = (-1 : Int32) then
        Nm_tries_j48 p1 p2 q1.1 q1.2
      else
        ((Is_isPart 2 p2 q1.2).bind fun q17 =>
        (if q17.1 = 0 then
          Nm_tries_j45 p1 p2 q17.2
        else
          Nm_tries_j48 p1 p2 q1.1 q17.2))))))
  else
    Nm_tries_j48 p1 p2 q1.1 q1.2))
set_option maxRecDepth 100000 in
set_option maxHeartbeats 4000000 in
theorem ct_Nm_tries (X : nm_X) (p1 : Int32) (p2 : Int32) (σ : nm_St) : Ct X mi_Nm_tries 3 nm_wI [.ref 0, .int p1, .int p2] σ (Nm_tries p1 p2 σ) := by
  refine Ct.of (by decide +kernel) rfl (fun F hF0 => ?_)
  unfold Nm_tries
  refine rn_aload_n (pc := 0) 0 dk_Nm_tries_0 rfl rfl rfl ?_
  refine rn_iload_n (pc := 1) 1 dk_Nm_tries_1 rfl rfl ?_
  refine cl_Nm_81 (pc := 2) (As := [.int p1]) (st := []) rfl (ct_Nm_checkRow X p1 σ) (Nat.le_trans (Nat.le_of_ble_eq_true rfl) hF0) rfl rfl (Nat.le_of_ble_eq_true rfl) dk_Nm_tries_2 (fun q1 => ?_)
  refine rn_istore_n (pc := 5) 3 dk_Nm_tries_5 rfl rfl rfl ?_
  refine rn_iload_n (pc := 6) 3 dk_Nm_tries_6 rfl rfl ?_
  refine rn_if_ne (pc := 7) 48 dk_Nm_tries_7 (by decide) (fun c2 => ?_) (fun c2 => ?_)
  · exact rn_sub (by rfl) (r_Nm_tries_j48 X F hF0 p1 p2 q1.1 q1.2)
  · refine rn_aload_n (pc := 10) 0 dk_Nm_tries_10 rfl rfl rfl ?_
    refine gf_Nm_18 (pc := 11) rfl dk_Nm_tries_11 ?_
    refine gf_Nm_155 (pc := 14) 2 rfl rfl dk_Nm_tries_14 ?_
    refine rn_aload_n (pc := 17) 0 dk_Nm_tries_17 rfl rfl rfl ?_
    refine gf_Nm_11 (pc := 18) rfl dk_Nm_tries_18 ?_
    refine rn_iload_n (pc := 21) 1 dk_Nm_tries_21 rfl rfl ?_
    refine rn_aaload (pc := 22) dk_Nm_tries_22 (fun g14 => ?_)
    refine gf_Nm_272 (pc := 23) (nm_sf p1) (nm_sf_isH g14) rfl dk_Nm_tries_23 ?_
    refine rn_icmp_gt (pc := 26) 45 dk_Nm_tries_26 (by decide) (fun c15 => ?_) (fun c15 => ?_)
    · exact rn_sub (by rfl) (r_Nm_tries_j45 X F hF0 p1 p2 q1.2)
    · refine rn_iload_n (pc := 29) 2 dk_Nm_tries_29 rfl rfl ?_
      refine rn_iconst (pc := 30) (-1 : Int32) dk_Nm_tries_30 cn_i_m1 ?_
      refine rn_icmp_eq (pc := 31) 48 dk_Nm_tries_31 (by decide) (fun c16 => ?_) (fun c16 => ?_)
      · exact rn_sub (by rfl) (r_Nm_tries_j48 X F hF0 p1 p2 q1.1 q1.2)
      · refine rn_aload_n (pc := 34) 0 dk_Nm_tries_34 rfl rfl rfl ?_
        refine gf_Nm_18 (pc := 35) rfl dk_Nm_tries_35 ?_
        refine rn_iload_n (pc := 38) 2 dk_Nm_tries_38 rfl rfl ?_
        refine cl_Nm_158 (pc := 39) (As := [.int p2]) (st := []) 2 rfl rfl (ct_Is_isPart X 2 rfl p2 q1.2) (Nat.le_trans (Nat.le_of_ble_eq_true rfl) hF0) rfl rfl (Nat.le_of_ble_eq_true rfl) dk_Nm_tries_39 (fun q17 => ?_)
        refine rn_if_ne (pc := 42) 48 dk_Nm_tries_42 (by decide) (fun c18 => ?_) (fun c18 => ?_)
        · exact rn_sub (by rfl) (r_Nm_tries_j48 X F hF0 p1 p2 q1.1 q17.2)
        · exact rn_sub (by rfl) (r_Nm_tries_j45 X F hF0 p1 p2 q17.2)
theorem dk_Nm_areSets_0 : decode mi_Nm_areSets.2.1 0 = .ok (.iconst 0, 1) := by decide +kernel
theorem dk_Nm_areSets_1 : decode mi_Nm_areSets.2.1 1 = .ok (.istore_n 3, 1) := by decide +kernel
theorem dk_Nm_areSets_2 : decode mi_Nm_areSets.2.1 2 = .ok (.iload_n 3, 1) := by decide +kernel
theorem dk_Nm_areSets_3 : decode mi_Nm_areSets.2.1 3 = .ok (.iload_n 2, 1) := by decide +kernel
theorem dk_Nm_areSets_4 : decode mi_Nm_areSets.2.1 4 = .ok (.if_icmp .ge 29, 3) := by decide +kernel
theorem dk_Nm_areSets_7 : decode mi_Nm_areSets.2.1 7 = .ok (.aload_n 1, 1) := by decide +kernel
theorem dk_Nm_areSets_8 : decode mi_Nm_areSets.2.1 8 = .ok (.iload_n 3, 1) := by decide +kernel
theorem dk_Nm_areSets_9 : decode mi_Nm_areSets.2.1 9 = .ok (.invokevirtual 357, 3) := by decide +kernel
theorem dk_Nm_areSets_12 : decode mi_Nm_areSets.2.1 12 = .ok (.aload_n 0, 1) := by decide +kernel
theorem dk_Nm_areSets_13 : decode mi_Nm_areSets.2.1 13 = .ok (.getfield 18, 3) := by decide +kernel
theorem dk_Nm_areSets_16 : decode mi_Nm_areSets.2.1 16 = .ok (.invokevirtual 366, 3) := by decide +kernel
theorem dk_Nm_areSets_19 : decode mi_Nm_areSets.2.1 19 = .ok (.iconst (-1), 1) := by decide +kernel
theorem dk_Nm_areSets_20 : decode mi_Nm_areSets.2.1 20 = .ok (.ixor, 1) := by decide +kernel
theorem dk_Nm_areSets_21 : decode mi_Nm_areSets.2.1 21 = .ok (.iand, 1) := by decide +kernel
theorem dk_Nm_areSets_22 : decode mi_Nm_areSets.2.1 22 = .ok (.ifCond .eq 5, 3) := by decide +kernel
theorem dk_Nm_areSets_25 : decode mi_Nm_areSets.2.1 25 = .ok (.iconst 0, 1) := by decide +kernel
theorem dk_Nm_areSets_26 : decode mi_Nm_areSets.2.1 26 = .ok (.ireturn, 1) := by decide +kernel
theorem dk_Nm_areSets_27 : decode mi_Nm_areSets.2.1 27 = .ok (.iinc 3 1, 3) := by decide +kernel
theorem dk_Nm_areSets_30 : decode mi_Nm_areSets.2.1 30 = .ok (.goto (-28), 3) := by decide +kernel
theorem dk_Nm_areSets_33 : decode mi_Nm_areSets.2.1 33 = .ok (.iconst 1, 1) := by decide +kernel
theorem dk_Nm_areSets_34 : decode mi_Nm_areSets.2.1 34 = .ok (.ireturn, 1) := by decide +kernel
def Nm_areSets_l2 (o1 : Nat) (k_33 : nm_St → Option (Int32 × nm_St)) : Nat → Int32 → Int32 → nm_St → Option (Int32 × nm_St)
  | 0, _, _, _ => none
  | n + 1, x2, x3, σ =>
    (if x2 ≤ x3 then
      k_33 σ
    else
      ((Sh_number o1 x3 σ).bind fun q2 =>
      ((Is_everyone 2 q2.2).bind fun q3 =>
      (if (q2.1 &&& (q3.1 ^^^ (-1 : Int32))) = 0 then
        (Nm_areSets_l2 o1 k_33 n) x2 (x3 + (1 : Int32)) q3.2
      else
        some ((0 : Int32), q3.2)))))
set_option maxRecDepth 100000 in
set_option maxHeartbeats 4000000 in
theorem r_Nm_areSets_l2 (X : nm_X) (F : nm_F) (hF0 : 1 ≤ nm_d F) (o1 : Nat) (ho1 : nm_isH o1 = true) (k_33 : nm_St → Option (Int32 × nm_St)) (hk_33 : ∀ (σ : nm_St), Rn X mi_Nm_areSets F (nm_Qf X F nm_wI) [] [] 33 σ (k_33 σ)) : ∀ (n : Nat) (x2 : Int32) (x3 : Int32) (σ : nm_St), Rn X mi_Nm_areSets F (nm_Qf X F nm_wI) [(0, .ref 0), (1, .ref o1), (2, .int x2), (3, .int x3)] [] 2 σ (Nm_areSets_l2 o1 k_33 n x2 x3 σ) := by
  intro n
  induction n with
  | zero =>
    intro x2 x3 σ
    exact rn_none
  | succ n ih =>
    intro x2 x3 σ
    unfold Nm_areSets_l2
    refine rn_iload_n (pc := 2) 3 dk_Nm_areSets_2 rfl rfl ?_
    refine rn_iload_n (pc := 3) 2 dk_Nm_areSets_3 rfl rfl ?_
    refine rn_icmp_ge (pc := 4) 33 dk_Nm_areSets_4 (by decide) (fun c1 => ?_) (fun c1 => ?_)
    · exact rn_sub (by rfl) (hk_33 σ)
    · refine rn_aload_n (pc := 7) 1 dk_Nm_areSets_7 rfl rfl (nm_rok_isH ho1) ?_
      refine rn_iload_n (pc := 8) 3 dk_Nm_areSets_8 rfl rfl ?_
      refine cl_Nm_357 (pc := 9) (As := [.int x3]) (st := []) o1 ho1 rfl (ct_Sh_number X o1 ho1 x3 σ) (Nat.le_trans (Nat.le_of_ble_eq_true rfl) hF0) rfl rfl (Nat.le_of_ble_eq_true rfl) dk_Nm_areSets_9 (fun q2 => ?_)
      refine rn_aload_n (pc := 12) 0 dk_Nm_areSets_12 rfl rfl rfl ?_
      refine gf_Nm_18 (pc := 13) rfl dk_Nm_areSets_13 ?_
      refine cl_Nm_366 (pc := 16) (As := []) (st := [.int q2.1]) 2 rfl rfl (ct_Is_everyone X 2 rfl q2.2) (Nat.le_trans (Nat.le_of_ble_eq_true rfl) hF0) rfl rfl (Nat.le_of_ble_eq_true rfl) dk_Nm_areSets_16 (fun q3 => ?_)
      refine rn_iconst (pc := 19) (-1 : Int32) dk_Nm_areSets_19 cn_i_m1 ?_
      refine rn_ixor (pc := 20) dk_Nm_areSets_20 ?_
      refine rn_iand (pc := 21) dk_Nm_areSets_21 ?_
      refine rn_if_eq (pc := 22) 27 dk_Nm_areSets_22 (by decide) (fun c4 => ?_) (fun c4 => ?_)
      · refine rn_iinc (pc := 27) (1 : Int32) dk_Nm_areSets_27 cn_i_1 rfl rfl rfl ?_
        refine rn_goto (pc := 30) 2 dk_Nm_areSets_30 (by decide) ?_
        exact rn_sub (by rfl) (ih x2 (x3 + (1 : Int32)) q3.2)
      · refine rn_iconst (pc := 25) (0 : Int32) dk_Nm_areSets_25 cn_i_0 ?_
        exact rn_zret (ty := .boolean) rfl rfl dk_Nm_areSets_26
def Nm_areSets (o1 : Nat) (p2 : Int32) (σ : nm_St) : Option (Int32 × nm_St) :=
  Nm_areSets_l2 o1 (fun (s5 : nm_St) =>
    some ((1 : Int32), s5)) 400 p2 (0 : Int32) σ
set_option maxRecDepth 100000 in
set_option maxHeartbeats 4000000 in
theorem ct_Nm_areSets (X : nm_X) (o1 : Nat) (ho1 : nm_isH o1 = true) (p2 : Int32) (σ : nm_St) : Ct X mi_Nm_areSets 1 nm_wI [.ref 0, .ref o1, .int p2] σ (Nm_areSets o1 p2 σ) := by
  refine Ct.of (by decide +kernel) rfl (fun F hF0 => ?_)
  unfold Nm_areSets
  refine rn_iconst (pc := 0) (0 : Int32) dk_Nm_areSets_0 cn_i_0 ?_
  refine rn_istore_n (pc := 1) 3 dk_Nm_areSets_1 rfl rfl rfl ?_
  refine rn_sub (by rfl) (r_Nm_areSets_l2 X F hF0 o1 ho1 _ (fun s5 => ?_) 400 p2 (0 : Int32) σ)
  refine rn_iconst (pc := 33) (1 : Int32) dk_Nm_areSets_33 cn_i_1 ?_
  exact rn_zret (ty := .boolean) rfl rfl dk_Nm_areSets_34
theorem dk_Nm_whoMayHaveKnown_0 : decode mi_Nm_whoMayHaveKnown.2.1 0 = .ok (.aload_n 0, 1) := by decide +kernel
theorem dk_Nm_whoMayHaveKnown_1 : decode mi_Nm_whoMayHaveKnown.2.1 1 = .ok (.getfield 18, 3) := by decide +kernel
theorem dk_Nm_whoMayHaveKnown_4 : decode mi_Nm_whoMayHaveKnown.2.1 4 = .ok (.invokevirtual 366, 3) := by decide +kernel
theorem dk_Nm_whoMayHaveKnown_7 : decode mi_Nm_whoMayHaveKnown.2.1 7 = .ok (.istore 4, 2) := by decide +kernel
theorem dk_Nm_whoMayHaveKnown_9 : decode mi_Nm_whoMayHaveKnown.2.1 9 = .ok (.iconst 0, 1) := by decide +kernel
theorem dk_Nm_whoMayHaveKnown_10 : decode mi_Nm_whoMayHaveKnown.2.1 10 = .ok (.istore 5, 2) := by decide +kernel
theorem dk_Nm_whoMayHaveKnown_12 : decode mi_Nm_whoMayHaveKnown.2.1 12 = .ok (.iload 5, 2) := by decide +kernel
theorem dk_Nm_whoMayHaveKnown_14 : decode mi_Nm_whoMayHaveKnown.2.1 14 = .ok (.iload_n 3, 1) := by decide +kernel
theorem dk_Nm_whoMayHaveKnown_15 : decode mi_Nm_whoMayHaveKnown.2.1 15 = .ok (.if_icmp .ge 40, 3) := by decide +kernel
theorem dk_Nm_whoMayHaveKnown_18 : decode mi_Nm_whoMayHaveKnown.2.1 18 = .ok (.aload_n 1, 1) := by decide +kernel
theorem dk_Nm_whoMayHaveKnown_19 : decode mi_Nm_whoMayHaveKnown.2.1 19 = .ok (.iload 5, 2) := by decide +kernel
theorem dk_Nm_whoMayHaveKnown_21 : decode mi_Nm_whoMayHaveKnown.2.1 21 = .ok (.invokevirtual 357, 3) := by decide +kernel
theorem dk_Nm_whoMayHaveKnown_24 : decode mi_Nm_whoMayHaveKnown.2.1 24 = .ok (.istore 6, 2) := by decide +kernel
theorem dk_Nm_whoMayHaveKnown_26 : decode mi_Nm_whoMayHaveKnown.2.1 26 = .ok (.iload 4, 2) := by decide +kernel
theorem dk_Nm_whoMayHaveKnown_28 : decode mi_Nm_whoMayHaveKnown.2.1 28 = .ok (.aload_n 2, 1) := by decide +kernel
theorem dk_Nm_whoMayHaveKnown_29 : decode mi_Nm_whoMayHaveKnown.2.1 29 = .ok (.iload 5, 2) := by decide +kernel
theorem dk_Nm_whoMayHaveKnown_31 : decode mi_Nm_whoMayHaveKnown.2.1 31 = .ok (.invokevirtual 357, 3) := by decide +kernel
theorem dk_Nm_whoMayHaveKnown_34 : decode mi_Nm_whoMayHaveKnown.2.1 34 = .ok (.ifCond .eq 8, 3) := by decide +kernel
theorem dk_Nm_whoMayHaveKnown_37 : decode mi_Nm_whoMayHaveKnown.2.1 37 = .ok (.iload 6, 2) := by decide +kernel
theorem dk_Nm_whoMayHaveKnown_39 : decode mi_Nm_whoMayHaveKnown.2.1 39 = .ok (.goto 7, 3) := by decide +kernel
theorem dk_Nm_whoMayHaveKnown_42 : decode mi_Nm_whoMayHaveKnown.2.1 42 = .ok (.iload 6, 2) := by decide +kernel
theorem dk_Nm_whoMayHaveKnown_44 : decode mi_Nm_whoMayHaveKnown.2.1 44 = .ok (.iconst (-1), 1) := by decide +kernel
theorem dk_Nm_whoMayHaveKnown_45 : decode mi_Nm_whoMayHaveKnown.2.1 45 = .ok (.ixor, 1) := by decide +kernel
theorem dk_Nm_whoMayHaveKnown_46 : decode mi_Nm_whoMayHaveKnown.2.1 46 = .ok (.iand, 1) := by decide +kernel
theorem dk_Nm_whoMayHaveKnown_47 : decode mi_Nm_whoMayHaveKnown.2.1 47 = .ok (.istore 4, 2) := by decide +kernel
theorem dk_Nm_whoMayHaveKnown_49 : decode mi_Nm_whoMayHaveKnown.2.1 49 = .ok (.iinc 5 1, 3) := by decide +kernel
theorem dk_Nm_whoMayHaveKnown_52 : decode mi_Nm_whoMayHaveKnown.2.1 52 = .ok (.goto (-40), 3) := by decide +kernel
theorem dk_Nm_whoMayHaveKnown_55 : decode mi_Nm_whoMayHaveKnown.2.1 55 = .ok (.iload 4, 2) := by decide +kernel
theorem dk_Nm_whoMayHaveKnown_57 : decode mi_Nm_whoMayHaveKnown.2.1 57 = .ok (.ireturn, 1) := by decide +kernel
def Nm_whoMayHaveKnown_l12 (o1 : Nat) (o2 : Nat) (k_55 : Int32 → nm_St → Option (Int32 × nm_St)) : Nat → Int32 → Int32 → Int32 → nm_St → Option (Int32 × nm_St)
  | 0, _, _, _, _ => none
  | n + 1, x3, x4, x5, σ =>
    (if x3 ≤ x5 then
      k_55 x4 σ
    else
      ((Sh_number o1 x5 σ).bind fun q3 =>
      ((Sh_number o2 x5 q3.2).bind fun q4 =>
      (if q4.1 = 0 then
        (nm_let ((x4 &&& (q3.1 ^^^ (-1 : Int32)))) fun v6 =>
        (Nm_whoMayHaveKnown_l12 o1 o2 k_55 n) x3 v6 (x5 + (1 : Int32)) q4.2)
      else
        (Nm_whoMayHaveKnown_l12 o1 o2 k_55 n) x3 (x4 &&& q3.1) (x5 + (1 : Int32)) q4.2))))
set_option maxRecDepth 100000 in
set_option maxHeartbeats 4000000 in
theorem r_Nm_whoMayHaveKnown_l12 (X : nm_X) (F : nm_F) (hF0 : 1 ≤ nm_d F) (o1 : Nat) (ho1 : nm_isH o1 = true) (o2 : Nat) (ho2 : nm_isH o2 = true) (k_55 : Int32 → nm_St → Option (Int32 × nm_St)) (hk_55 : ∀ (x4 : Int32) (σ : nm_St), Rn X mi_Nm_whoMayHaveKnown F (nm_Qf X F nm_wI) [(4, .int x4)] [] 55 σ (k_55 x4 σ)) : ∀ (n : Nat) (x3 : Int32) (x4 : Int32) (x5 : Int32) (σ : nm_St), Rn X mi_Nm_whoMayHaveKnown F (nm_Qf X F nm_wI) [(1, .ref o1), (2, .ref o2), (3, .int x3), (4, .int x4), (5, .int x5)] [] 12 σ (Nm_whoMayHaveKnown_l12 o1 o2 k_55 n x3 x4 x5 σ) := by
  intro n
  induction n with
  | zero =>
    intro x3 x4 x5 σ
    exact rn_none
  | succ n ih =>
    intro x3 x4 x5 σ
    unfold Nm_whoMayHaveKnown_l12
    refine rn_iload (pc := 12) dk_Nm_whoMayHaveKnown_12 rfl ?_
    refine rn_iload_n (pc := 14) 3 dk_Nm_whoMayHaveKnown_14 rfl rfl ?_
    refine rn_icmp_ge (pc := 15) 55 dk_Nm_whoMayHaveKnown_15 (by decide) (fun c2 => ?_) (fun c2 => ?_)
    · exact rn_sub (by rfl) (hk_55 x4 σ)
    · refine rn_aload_n (pc := 18) 1 dk_Nm_whoMayHaveKnown_18 rfl rfl (nm_rok_isH ho1) ?_
      refine rn_iload (pc := 19) dk_Nm_whoMayHaveKnown_19 rfl ?_
      refine cl_Nm_357 (pc := 21) (As := [.int x5]) (st := []) o1 ho1 rfl (ct_Sh_number X o1 ho1 x5 σ) (Nat.le_trans (Nat.le_of_ble_eq_true rfl) hF0) rfl rfl (Nat.le_of_ble_eq_true rfl) dk_Nm_whoMayHaveKnown_21 (fun q3 => ?_)
      refine rn_istore (pc := 24) dk_Nm_whoMayHaveKnown_24 rfl rfl ?_
      refine rn_iload (pc := 26) dk_Nm_whoMayHaveKnown_26 rfl ?_
      refine rn_aload_n (pc := 28) 2 dk_Nm_whoMayHaveKnown_28 rfl rfl (nm_rok_isH ho2) ?_
      refine rn_iload (pc := 29) dk_Nm_whoMayHaveKnown_29 rfl ?_
      refine cl_Nm_357 (pc := 31) (As := [.int x5]) (st := [.int x4]) o2 ho2 rfl (ct_Sh_number X o2 ho2 x5 q3.2) (Nat.le_trans (Nat.le_of_ble_eq_true rfl) hF0) rfl rfl (Nat.le_of_ble_eq_true rfl) dk_Nm_whoMayHaveKnown_31 (fun q4 => ?_)
      refine rn_if_eq (pc := 34) 42 dk_Nm_whoMayHaveKnown_34 (by decide) (fun c5 => ?_) (fun c5 => ?_)
      · refine rn_iload (pc := 42) dk_Nm_whoMayHaveKnown_42 rfl ?_
        refine rn_iconst (pc := 44) (-1 : Int32) dk_Nm_whoMayHaveKnown_44 cn_i_m1 ?_
        refine rn_ixor (pc := 45) dk_Nm_whoMayHaveKnown_45 ?_
        refine rn_iand (pc := 46) dk_Nm_whoMayHaveKnown_46 ?_
        refine rn_leti (fun v6 => ?_)
        refine rn_istore (pc := 47) dk_Nm_whoMayHaveKnown_47 rfl rfl ?_
        refine rn_iinc (pc := 49) (1 : Int32) dk_Nm_whoMayHaveKnown_49 cn_i_1 rfl rfl rfl ?_
        refine rn_goto (pc := 52) 12 dk_Nm_whoMayHaveKnown_52 (by decide) ?_
        exact rn_sub (by rfl) (ih x3 v6 (x5 + (1 : Int32)) q4.2)
      · refine rn_iload (pc := 37) dk_Nm_whoMayHaveKnown_37 rfl ?_
        refine rn_goto (pc := 39) 46 dk_Nm_whoMayHaveKnown_39 (by decide) ?_
        refine rn_iand (pc := 46) dk_Nm_whoMayHaveKnown_46 ?_
        refine rn_istore (pc := 47) dk_Nm_whoMayHaveKnown_47 rfl rfl ?_
        refine rn_iinc (pc := 49) (1 : Int32) dk_Nm_whoMayHaveKnown_49 cn_i_1 rfl rfl rfl ?_
        refine rn_goto (pc := 52) 12 dk_Nm_whoMayHaveKnown_52 (by decide) ?_
        exact rn_sub (by rfl) (ih x3 (x4 &&& q3.1) (x5 + (1 : Int32)) q4.2)
def Nm_whoMayHaveKnown (o1 : Nat) (o2 : Nat) (p3 : Int32) (σ : nm_St) : Option (Int32 × nm_St) :=
  ((Is_everyone 2 σ).bind fun q1 =>
  Nm_whoMayHaveKnown_l12 o1 o2 (fun (e8 : Int32) (s7 : nm_St) =>
    some (e8, s7)) 400 p3 q1.1 (0 : Int32) q1.2)
set_option maxRecDepth 100000 in
set_option maxHeartbeats 4000000 in
theorem ct_Nm_whoMayHaveKnown (X : nm_X) (o1 : Nat) (ho1 : nm_isH o1 = true) (o2 : Nat) (ho2 : nm_isH o2 = true) (p3 : Int32) (σ : nm_St) : Ct X mi_Nm_whoMayHaveKnown 1 nm_wI [.ref 0, .ref o1, .ref o2, .int p3] σ (Nm_whoMayHaveKnown o1 o2 p3 σ) := by
  refine Ct.of (by decide +kernel) rfl (fun F hF0 => ?_)
  unfold Nm_whoMayHaveKnown
  refine rn_aload_n (pc := 0) 0 dk_Nm_whoMayHaveKnown_0 rfl rfl rfl ?_
  refine gf_Nm_18 (pc := 1) rfl dk_Nm_whoMayHaveKnown_1 ?_
  refine cl_Nm_366 (pc := 4) (As := []) (st := []) 2 rfl rfl (ct_Is_everyone X 2 rfl σ) (Nat.le_trans (Nat.le_of_ble_eq_true rfl) hF0) rfl rfl (Nat.le_of_ble_eq_true rfl) dk_Nm_whoMayHaveKnown_4 (fun q1 => ?_)
  refine rn_istore (pc := 7) dk_Nm_whoMayHaveKnown_7 rfl rfl ?_
  refine rn_iconst (pc := 9) (0 : Int32) dk_Nm_whoMayHaveKnown_9 cn_i_0 ?_
  refine rn_istore (pc := 10) dk_Nm_whoMayHaveKnown_10 rfl rfl ?_
  refine rn_sub (by rfl) (r_Nm_whoMayHaveKnown_l12 X F hF0 o1 ho1 o2 ho2 _ (fun e8 s7 => ?_) 400 p3 q1.1 (0 : Int32) q1.2)
  refine rn_iload (pc := 55) dk_Nm_whoMayHaveKnown_55 rfl ?_
  exact rn_iret rfl dk_Nm_whoMayHaveKnown_57
theorem dk_Nm_who_0 : decode mi_Nm_who.2.1 0 = .ok (.aload_n 0, 1) := by decide +kernel
theorem dk_Nm_who_1 : decode mi_Nm_who.2.1 1 = .ok (.iload_n 1, 1) := by decide +kernel
theorem dk_Nm_who_2 : decode mi_Nm_who.2.1 2 = .ok (.iload_n 2, 1) := by decide +kernel
theorem dk_Nm_who_3 : decode mi_Nm_who.2.1 3 = .ok (.iconst 0, 1) := by decide +kernel
theorem dk_Nm_who_4 : decode mi_Nm_who.2.1 4 = .ok (.invokevirtual 91, 3) := by decide +kernel
theorem dk_Nm_who_7 : decode mi_Nm_who.2.1 7 = .ok (.istore 4, 2) := by decide +kernel
theorem dk_Nm_who_9 : decode mi_Nm_who.2.1 9 = .ok (.iload 4, 2) := by decide +kernel
theorem dk_Nm_who_11 : decode mi_Nm_who.2.1 11 = .ok (.ifCond .ne 11, 3) := by decide +kernel
theorem dk_Nm_who_14 : decode mi_Nm_who.2.1 14 = .ok (.iload_n 3, 1) := by decide +kernel
theorem dk_Nm_who_15 : decode mi_Nm_who.2.1 15 = .ok (.ifCond .ge 7, 3) := by decide +kernel
theorem dk_Nm_who_18 : decode mi_Nm_who.2.1 18 = .ok (.bipush (-4), 2) := by decide +kernel
theorem dk_Nm_who_20 : decode mi_Nm_who.2.1 20 = .ok (.istore 4, 2) := by decide +kernel
theorem dk_Nm_who_22 : decode mi_Nm_who.2.1 22 = .ok (.iload 4, 2) := by decide +kernel
theorem dk_Nm_who_24 : decode mi_Nm_who.2.1 24 = .ok (.ifCond .ne 33, 3) := by decide +kernel
theorem dk_Nm_who_27 : decode mi_Nm_who.2.1 27 = .ok (.iload_n 3, 1) := by decide +kernel
theorem dk_Nm_who_28 : decode mi_Nm_who.2.1 28 = .ok (.aload_n 0, 1) := by decide +kernel
theorem dk_Nm_who_29 : decode mi_Nm_who.2.1 29 = .ok (.getfield 11, 3) := by decide +kernel
theorem dk_Nm_who_32 : decode mi_Nm_who.2.1 32 = .ok (.iload_n 1, 1) := by decide +kernel
theorem dk_Nm_who_33 : decode mi_Nm_who.2.1 33 = .ok (.aaload, 1) := by decide +kernel
theorem dk_Nm_who_34 : decode mi_Nm_who.2.1 34 = .ok (.getfield 272, 3) := by decide +kernel
theorem dk_Nm_who_37 : decode mi_Nm_who.2.1 37 = .ok (.if_icmp .gt 16, 3) := by decide +kernel
theorem dk_Nm_who_40 : decode mi_Nm_who.2.1 40 = .ok (.iload_n 3, 1) := by decide +kernel
theorem dk_Nm_who_41 : decode mi_Nm_who.2.1 41 = .ok (.aload_n 0, 1) := by decide +kernel
theorem dk_Nm_who_42 : decode mi_Nm_who.2.1 42 = .ok (.getfield 11, 3) := by decide +kernel
theorem dk_Nm_who_45 : decode mi_Nm_who.2.1 45 = .ok (.iload_n 2, 1) := by decide +kernel
theorem dk_Nm_who_46 : decode mi_Nm_who.2.1 46 = .ok (.aaload, 1) := by decide +kernel
theorem dk_Nm_who_47 : decode mi_Nm_who.2.1 47 = .ok (.getfield 272, 3) := by decide +kernel
theorem dk_Nm_who_50 : decode mi_Nm_who.2.1 50 = .ok (.if_icmp .le 7, 3) := by decide +kernel
theorem dk_Nm_who_53 : decode mi_Nm_who.2.1 53 = .ok (.bipush (-5), 2) := by decide +kernel
theorem dk_Nm_who_55 : decode mi_Nm_who.2.1 55 = .ok (.istore 4, 2) := by decide +kernel
theorem dk_Nm_who_57 : decode mi_Nm_who.2.1 57 = .ok (.iload 4, 2) := by decide +kernel
theorem dk_Nm_who_59 : decode mi_Nm_who.2.1 59 = .ok (.ifCond .ne 31, 3) := by decide +kernel
theorem dk_Nm_who_62 : decode mi_Nm_who.2.1 62 = .ok (.iload_n 3, 1) := by decide +kernel
theorem dk_Nm_who_63 : decode mi_Nm_who.2.1 63 = .ok (.iconst 1, 1) := by decide +kernel
theorem dk_Nm_who_64 : decode mi_Nm_who.2.1 64 = .ok (.bipush 40, 2) := by decide +kernel
theorem dk_Nm_who_66 : decode mi_Nm_who.2.1 66 = .ok (.invokestatic 144, 3) := by decide +kernel
theorem dk_Nm_who_69 : decode mi_Nm_who.2.1 69 = .ok (.ifCond .eq 17, 3) := by decide +kernel
theorem dk_Nm_who_72 : decode mi_Nm_who.2.1 72 = .ok (.aload_n 0, 1) := by decide +kernel
theorem dk_Nm_who_73 : decode mi_Nm_who.2.1 73 = .ok (.aload_n 0, 1) := by decide +kernel
theorem dk_Nm_who_74 : decode mi_Nm_who.2.1 74 = .ok (.getfield 11, 3) := by decide +kernel
theorem dk_Nm_who_77 : decode mi_Nm_who.2.1 77 = .ok (.iload_n 1, 1) := by decide +kernel
theorem dk_Nm_who_78 : decode mi_Nm_who.2.1 78 = .ok (.aaload, 1) := by decide +kernel
theorem dk_Nm_who_79 : decode mi_Nm_who.2.1 79 = .ok (.iload_n 3, 1) := by decide +kernel
theorem dk_Nm_who_80 : decode mi_Nm_who.2.1 80 = .ok (.invokevirtual 285, 3) := by decide +kernel
theorem dk_Nm_who_83 : decode mi_Nm_who.2.1 83 = .ok (.ifCond .ne 7, 3) := by decide +kernel
theorem dk_Nm_who_86 : decode mi_Nm_who.2.1 86 = .ok (.bipush (-6), 2) := by decide +kernel
theorem dk_Nm_who_88 : decode mi_Nm_who.2.1 88 = .ok (.istore 4, 2) := by decide +kernel
theorem dk_Nm_who_90 : decode mi_Nm_who.2.1 90 = .ok (.iload 4, 2) := by decide +kernel
theorem dk_Nm_who_92 : decode mi_Nm_who.2.1 92 = .ok (.ifCond .eq 10, 3) := by decide +kernel
theorem dk_Nm_who_95 : decode mi_Nm_who.2.1 95 = .ok (.aload_n 0, 1) := by decide +kernel
theorem dk_Nm_who_96 : decode mi_Nm_who.2.1 96 = .ok (.iload 4, 2) := by decide +kernel
theorem dk_Nm_who_98 : decode mi_Nm_who.2.1 98 = .ok (.invokevirtual 73, 3) := by decide +kernel
theorem dk_Nm_who_101 : decode mi_Nm_who.2.1 101 = .ok (.ireturn, 1) := by decide +kernel
theorem dk_Nm_who_102 : decode mi_Nm_who.2.1 102 = .ok (.aload_n 0, 1) := by decide +kernel
theorem dk_Nm_who_103 : decode mi_Nm_who.2.1 103 = .ok (.aload_n 0, 1) := by decide +kernel
theorem dk_Nm_who_104 : decode mi_Nm_who.2.1 104 = .ok (.getfield 11, 3) := by decide +kernel
theorem dk_Nm_who_107 : decode mi_Nm_who.2.1 107 = .ok (.iload_n 1, 1) := by decide +kernel
theorem dk_Nm_who_108 : decode mi_Nm_who.2.1 108 = .ok (.aaload, 1) := by decide +kernel
theorem dk_Nm_who_109 : decode mi_Nm_who.2.1 109 = .ok (.aload_n 0, 1) := by decide +kernel
theorem dk_Nm_who_110 : decode mi_Nm_who.2.1 110 = .ok (.getfield 11, 3) := by decide +kernel
theorem dk_Nm_who_113 : decode mi_Nm_who.2.1 113 = .ok (.iload_n 2, 1) := by decide +kernel
theorem dk_Nm_who_114 : decode mi_Nm_who.2.1 114 = .ok (.aaload, 1) := by decide +kernel
theorem dk_Nm_who_115 : decode mi_Nm_who.2.1 115 = .ok (.iload_n 3, 1) := by decide +kernel
theorem dk_Nm_who_116 : decode mi_Nm_who.2.1 116 = .ok (.invokevirtual 288, 3) := by decide +kernel
theorem dk_Nm_who_119 : decode mi_Nm_who.2.1 119 = .ok (.ireturn, 1) := by decide +kernel
def Nm_who_j90 (x1 : Int32) (x2 : Int32) (x3 : Int32) (x4 : Int32) (σ : nm_St) : Option (Int32 × nm_St) :=
  (if x4 = 0 then
    (nm_g (nm_in x1 8) (
    (nm_g (nm_in x2 8) (
    ((Nm_whoMayHaveKnown (nm_sf x1) (nm_sf x2) x3 σ).bind fun q8 =>
    some (q8.1, q8.2))))))
  else
    ((Nm_refuse x4 σ).bind fun q9 =>
    some (q9.1, q9.2)))
set_option maxRecDepth 100000 in
set_option maxHeartbeats 4000000 in
theorem r_Nm_who_j90 (X : nm_X) (F : nm_F) (hF0 : 2 ≤ nm_d F) (x1 : Int32) (x2 : Int32) (x3 : Int32) (x4 : Int32) (σ : nm_St) : Rn X mi_Nm_who F (nm_Qf X F nm_wI) [(0, .ref 0), (1, .int x1), (2, .int x2), (3, .int x3), (4, .int x4)] [] 90 σ (Nm_who_j90 x1 x2 x3 x4 σ) := by
  unfold Nm_who_j90
  refine rn_iload (pc := 90) dk_Nm_who_90 rfl ?_
  refine rn_if_eq (pc := 92) 102 dk_Nm_who_92 (by decide) (fun c5 => ?_) (fun c5 => ?_)
  · refine rn_aload_n (pc := 102) 0 dk_Nm_who_102 rfl rfl rfl ?_
    refine rn_aload_n (pc := 103) 0 dk_Nm_who_103 rfl rfl rfl ?_
    refine gf_Nm_11 (pc := 104) rfl dk_Nm_who_104 ?_
    refine rn_iload_n (pc := 107) 1 dk_Nm_who_107 rfl rfl ?_
    refine rn_aaload (pc := 108) dk_Nm_who_108 (fun g6 => ?_)
    refine rn_aload_n (pc := 109) 0 dk_Nm_who_109 rfl rfl rfl ?_
    refine gf_Nm_11 (pc := 110) rfl dk_Nm_who_110 ?_
    refine rn_iload_n (pc := 113) 2 dk_Nm_who_113 rfl rfl ?_
    refine rn_aaload (pc := 114) dk_Nm_who_114 (fun g7 => ?_)
    refine rn_iload_n (pc := 115) 3 dk_Nm_who_115 rfl rfl ?_
    refine cl_Nm_288 (pc := 116) (As := [.ref (nm_sf x1), .ref (nm_sf x2), .int x3]) (st := []) rfl (ct_Nm_whoMayHaveKnown X (nm_sf x1) (nm_sf_isH g6) (nm_sf x2) (nm_sf_isH g7) x3 σ) (Nat.le_trans (Nat.le_of_ble_eq_true rfl) hF0) rfl rfl (Nat.le_of_ble_eq_true rfl) dk_Nm_who_116 (fun q8 => ?_)
    exact rn_iret rfl dk_Nm_who_119
  · refine rn_aload_n (pc := 95) 0 dk_Nm_who_95 rfl rfl rfl ?_
    refine rn_iload (pc := 96) dk_Nm_who_96 rfl ?_
    refine cl_Nm_73 (pc := 98) (As := [.int x4]) (st := []) rfl (ct_Nm_refuse X x4 σ) (Nat.le_trans (Nat.le_of_ble_eq_true rfl) hF0) rfl rfl (Nat.le_of_ble_eq_true rfl) dk_Nm_who_98 (fun q9 => ?_)
    exact rn_iret rfl dk_Nm_who_101
def Nm_who_j86 (x1 : Int32) (x2 : Int32) (x3 : Int32) (σ : nm_St) : Option (Int32 × nm_St) :=
  Nm_who_j90 x1 x2 x3 (-6 : Int32) σ
set_option maxRecDepth 100000 in
set_option maxHeartbeats 4000000 in
theorem r_Nm_who_j86 (X : nm_X) (F : nm_F) (hF0 : 2 ≤ nm_d F) (x1 : Int32) (x2 : Int32) (x3 : Int32) (σ : nm_St) : Rn X mi_Nm_who F (nm_Qf X F nm_wI) [(0, .ref 0), (1, .int x1), (2, .int x2), (3, .int x3)] [] 86 σ (Nm_who_j86 x1 x2 x3 σ) := by
  unfold Nm_who_j86
  refine rn_bipush (pc := 86) (-6 : Int32) dk_Nm_who_86 cn_b_m6 ?_
  refine rn_istore (pc := 88) dk_Nm_who_88 rfl rfl ?_
  exact rn_sub (by rfl) (r_Nm_who_j90 X F hF0 x1 x2 x3 (-6 : Int32) σ)
def Nm_who_j57 (x1 : Int32) (x2 : Int32) (x3 : Int32) (x4 : Int32) (σ : nm_St) : Option (Int32 × nm_St) :=
  (if x4 = 0 then
    ((Nm_isWithin x3 (1 : Int32) (40 : Int32) σ).bind fun q10 =>
    (if q10.1 = 0 then
      Nm_who_j86 x1 x2 x3 q10.2
    else
      (nm_g (nm_in x1 8) (
      ((Nm_areSets (nm_sf x1) x3 q10.2).bind fun q13 =>
      (if q13.1 = 0 then
        Nm_who_j86 x1 x2 x3 q13.2
      else
        Nm_who_j90 x1 x2 x3 x4 q13.2))))))
  else
    Nm_who_j90 x1 x2 x3 x4 σ)
set_option maxRecDepth 100000 in
set_option maxHeartbeats 4000000 in
theorem r_Nm_who_j57 (X : nm_X) (F : nm_F) (hF0 : 2 ≤ nm_d F) (x1 : Int32) (x2 : Int32) (x3 : Int32) (x4 : Int32) (σ : nm_St) : Rn X mi_Nm_who F (nm_Qf X F nm_wI) [(0, .ref 0), (1, .int x1), (2, .int x2), (3, .int x3), (4, .int x4)] [] 57 σ (Nm_who_j57 x1 x2 x3 x4 σ) := by
  unfold Nm_who_j57
  refine rn_iload (pc := 57) dk_Nm_who_57 rfl ?_
  refine rn_if_ne (pc := 59) 90 dk_Nm_who_59 (by decide) (fun c4 => ?_) (fun c4 => ?_)
  · exact rn_sub (by rfl) (r_Nm_who_j90 X F hF0 x1 x2 x3 x4 σ)
  · refine rn_iload_n (pc := 62) 3 dk_Nm_who_62 rfl rfl ?_
    refine rn_iconst (pc := 63) (1 : Int32) dk_Nm_who_63 cn_i_1 ?_
    refine rn_bipush (pc := 64) (40 : Int32) dk_Nm_who_64 cn_b_40 ?_
    refine cl_Nm_144 (pc := 66) (As := [.int x3, .int (1 : Int32), .int (40 : Int32)]) (st := []) rfl (ct_Nm_isWithin X x3 (1 : Int32) (40 : Int32) σ) (Nat.le_trans (Nat.le_of_ble_eq_true rfl) hF0) rfl rfl (Nat.le_of_ble_eq_true rfl) dk_Nm_who_66 (fun q10 => ?_)
    refine rn_if_eq (pc := 69) 86 dk_Nm_who_69 (by decide) (fun c11 => ?_) (fun c11 => ?_)
    · exact rn_sub (by rfl) (r_Nm_who_j86 X F hF0 x1 x2 x3 q10.2)
    · refine rn_aload_n (pc := 72) 0 dk_Nm_who_72 rfl rfl rfl ?_
      refine rn_aload_n (pc := 73) 0 dk_Nm_who_73 rfl rfl rfl ?_
      refine gf_Nm_11 (pc := 74) rfl dk_Nm_who_74 ?_
      refine rn_iload_n (pc := 77) 1 dk_Nm_who_77 rfl rfl ?_
      refine rn_aaload (pc := 78) dk_Nm_who_78 (fun g12 => ?_)
      refine rn_iload_n (pc := 79) 3 dk_Nm_who_79 rfl rfl ?_
      refine cl_Nm_285 (pc := 80) (As := [.ref (nm_sf x1), .int x3]) (st := []) rfl (ct_Nm_areSets X (nm_sf x1) (nm_sf_isH g12) x3 q10.2) (Nat.le_trans (Nat.le_of_ble_eq_true rfl) hF0) rfl rfl (Nat.le_of_ble_eq_true rfl) dk_Nm_who_80 (fun q13 => ?_)
      refine rn_if_ne (pc := 83) 90 dk_Nm_who_83 (by decide) (fun c14 => ?_) (fun c14 => ?_)
      · exact rn_sub (by rfl) (r_Nm_who_j90 X F hF0 x1 x2 x3 x4 q13.2)
      · exact rn_sub (by rfl) (r_Nm_who_j86 X F hF0 x1 x2 x3 q13.2)
def Nm_who_j53 (x1 : Int32) (x2 : Int32) (x3 : Int32) (σ : nm_St) : Option (Int32 × nm_St) :=
  Nm_who_j57 x1 x2 x3 (-5 : Int32) σ
set_option maxRecDepth 100000 in
set_option maxHeartbeats 4000000 in
theorem r_Nm_who_j53 (X : nm_X) (F : nm_F) (hF0 : 2 ≤ nm_d F) (x1 : Int32) (x2 : Int32) (x3 : Int32) (σ : nm_St) : Rn X mi_Nm_who F (nm_Qf X F nm_wI) [(0, .ref 0), (1, .int x1), (2, .int x2), (3, .int x3)] [] 53 σ (Nm_who_j53 x1 x2 x3 σ) := by
  unfold Nm_who_j53
  refine rn_bipush (pc := 53) (-5 : Int32) dk_Nm_who_53 cn_b_m5 ?_
  refine rn_istore (pc := 55) dk_Nm_who_55 rfl rfl ?_
  exact rn_sub (by rfl) (r_Nm_who_j57 X F hF0 x1 x2 x3 (-5 : Int32) σ)
def Nm_who_j22 (x1 : Int32) (x2 : Int32) (x3 : Int32) (x4 : Int32) (σ : nm_St) : Option (Int32 × nm_St) :=
  (if x4 = 0 then
    (nm_g (nm_in x1 8) (
    (if (σ.1 (nm_sf x1) 3) < x3 then
      Nm_who_j53 x1 x2 x3 σ
    else
      (nm_g (nm_in x2 8) (
      (if x3 ≤ (σ.1 (nm_sf x2) 3) then
        Nm_who_j57 x1 x2 x3 x4 σ
      else
        Nm_who_j53 x1 x2 x3 σ))))))
  else
    Nm_who_j57 x1 x2 x3 x4 σ)
set_option maxRecDepth 100000 in
set_option maxHeartbeats 4000000 in
theorem r_Nm_who_j22 (X : nm_X) (F : nm_F) (hF0 : 2 ≤ nm_d F) (x1 : Int32) (x2 : Int32) (x3 : Int32) (x4 : Int32) (σ : nm_St) : Rn X mi_Nm_who F (nm_Qf X F nm_wI) [(0, .ref 0), (1, .int x1), (2, .int x2), (3, .int x3), (4, .int x4)] [] 22 σ (Nm_who_j22 x1 x2 x3 x4 σ) := by
  unfold Nm_who_j22
  refine rn_iload (pc := 22) dk_Nm_who_22 rfl ?_
  refine rn_if_ne (pc := 24) 57 dk_Nm_who_24 (by decide) (fun c3 => ?_) (fun c3 => ?_)
  · exact rn_sub (by rfl) (r_Nm_who_j57 X F hF0 x1 x2 x3 x4 σ)
  · refine rn_iload_n (pc := 27) 3 dk_Nm_who_27 rfl rfl ?_
    refine rn_aload_n (pc := 28) 0 dk_Nm_who_28 rfl rfl rfl ?_
    refine gf_Nm_11 (pc := 29) rfl dk_Nm_who_29 ?_
    refine rn_iload_n (pc := 32) 1 dk_Nm_who_32 rfl rfl ?_
    refine rn_aaload (pc := 33) dk_Nm_who_33 (fun g15 => ?_)
    refine gf_Nm_272 (pc := 34) (nm_sf x1) (nm_sf_isH g15) rfl dk_Nm_who_34 ?_
    refine rn_icmp_gt (pc := 37) 53 dk_Nm_who_37 (by decide) (fun c16 => ?_) (fun c16 => ?_)
    · exact rn_sub (by rfl) (r_Nm_who_j53 X F hF0 x1 x2 x3 σ)
    · refine rn_iload_n (pc := 40) 3 dk_Nm_who_40 rfl rfl ?_
      refine rn_aload_n (pc := 41) 0 dk_Nm_who_41 rfl rfl rfl ?_
      refine gf_Nm_11 (pc := 42) rfl dk_Nm_who_42 ?_
      refine rn_iload_n (pc := 45) 2 dk_Nm_who_45 rfl rfl ?_
      refine rn_aaload (pc := 46) dk_Nm_who_46 (fun g17 => ?_)
      refine gf_Nm_272 (pc := 47) (nm_sf x2) (nm_sf_isH g17) rfl dk_Nm_who_47 ?_
      refine rn_icmp_le (pc := 50) 57 dk_Nm_who_50 (by decide) (fun c18 => ?_) (fun c18 => ?_)
      · exact rn_sub (by rfl) (r_Nm_who_j57 X F hF0 x1 x2 x3 x4 σ)
      · exact rn_sub (by rfl) (r_Nm_who_j53 X F hF0 x1 x2 x3 σ)
def Nm_who (p1 : Int32) (p2 : Int32) (p3 : Int32) (σ : nm_St) : Option (Int32 × nm_St) :=
  ((Nm_checkTwoRows p1 p2 (0 : Int32) σ).bind fun q1 =>
  (if q1.1 = 0 then
    (if 0 ≤ p3 then
      Nm_who_j22 p1 p2 p3 q1.1 q1.2
    else
      Nm_who_j22 p1 p2 p3 (-4 : Int32) q1.2)
  else
    Nm_who_j22 p1 p2 p3 q1.1 q1.2))
set_option maxRecDepth 100000 in
set_option maxHeartbeats 4000000 in
theorem ct_Nm_who (X : nm_X) (p1 : Int32) (p2 : Int32) (p3 : Int32) (σ : nm_St) : Ct X mi_Nm_who 2 nm_wI [.ref 0, .int p1, .int p2, .int p3] σ (Nm_who p1 p2 p3 σ) := by
  refine Ct.of (by decide +kernel) rfl (fun F hF0 => ?_)
  unfold Nm_who
  refine rn_aload_n (pc := 0) 0 dk_Nm_who_0 rfl rfl rfl ?_
  refine rn_iload_n (pc := 1) 1 dk_Nm_who_1 rfl rfl ?_
  refine rn_iload_n (pc := 2) 2 dk_Nm_who_2 rfl rfl ?_
  refine rn_iconst (pc := 3) (0 : Int32) dk_Nm_who_3 cn_i_0 ?_
  refine cl_Nm_91 (pc := 4) (As := [.int p1, .int p2, .int (0 : Int32)]) (st := []) rfl (ct_Nm_checkTwoRows X p1 p2 (0 : Int32) σ) (Nat.le_trans (Nat.le_of_ble_eq_true rfl) hF0) rfl rfl (Nat.le_of_ble_eq_true rfl) dk_Nm_who_4 (fun q1 => ?_)
  refine rn_istore (pc := 7) dk_Nm_who_7 rfl rfl ?_
  refine rn_iload (pc := 9) dk_Nm_who_9 rfl ?_
  refine rn_if_ne (pc := 11) 22 dk_Nm_who_11 (by decide) (fun c2 => ?_) (fun c2 => ?_)
  · exact rn_sub (by rfl) (r_Nm_who_j22 X F hF0 p1 p2 p3 q1.1 q1.2)
  · refine rn_iload_n (pc := 14) 3 dk_Nm_who_14 rfl rfl ?_
    refine rn_if_ge (pc := 15) 22 dk_Nm_who_15 (by decide) (fun c19 => ?_) (fun c19 => ?_)
    · exact rn_sub (by rfl) (r_Nm_who_j22 X F hF0 p1 p2 p3 q1.1 q1.2)
    · refine rn_bipush (pc := 18) (-4 : Int32) dk_Nm_who_18 cn_b_m4 ?_
      refine rn_istore (pc := 20) dk_Nm_who_20 rfl rfl ?_
      exact rn_sub (by rfl) (r_Nm_who_j22 X F hF0 p1 p2 p3 (-4 : Int32) q1.2)
theorem dk_Nm_checkTold_0 : decode mi_Nm_checkTold.2.1 0 = .ok (.aload_n 0, 1) := by decide +kernel
theorem dk_Nm_checkTold_1 : decode mi_Nm_checkTold.2.1 1 = .ok (.iload_n 1, 1) := by decide +kernel
theorem dk_Nm_checkTold_2 : decode mi_Nm_checkTold.2.1 2 = .ok (.iload_n 2, 1) := by decide +kernel
theorem dk_Nm_checkTold_3 : decode mi_Nm_checkTold.2.1 3 = .ok (.invokevirtual 258, 3) := by decide +kernel
theorem dk_Nm_checkTold_6 : decode mi_Nm_checkTold.2.1 6 = .ok (.istore_n 3, 1) := by decide +kernel
theorem dk_Nm_checkTold_7 : decode mi_Nm_checkTold.2.1 7 = .ok (.iload_n 3, 1) := by decide +kernel
theorem dk_Nm_checkTold_8 : decode mi_Nm_checkTold.2.1 8 = .ok (.ifCond .ne 14, 3) := by decide +kernel
theorem dk_Nm_checkTold_11 : decode mi_Nm_checkTold.2.1 11 = .ok (.iload_n 2, 1) := by decide +kernel
theorem dk_Nm_checkTold_12 : decode mi_Nm_checkTold.2.1 12 = .ok (.bipush 40, 2) := by decide +kernel
theorem dk_Nm_checkTold_14 : decode mi_Nm_checkTold.2.1 14 = .ok (.if_icmp .le 8, 3) := by decide +kernel
theorem dk_Nm_checkTold_17 : decode mi_Nm_checkTold.2.1 17 = .ok (.bipush (-6), 2) := by decide +kernel
theorem dk_Nm_checkTold_19 : decode mi_Nm_checkTold.2.1 19 = .ok (.goto 4, 3) := by decide +kernel
theorem dk_Nm_checkTold_22 : decode mi_Nm_checkTold.2.1 22 = .ok (.iload_n 3, 1) := by decide +kernel
theorem dk_Nm_checkTold_23 : decode mi_Nm_checkTold.2.1 23 = .ok (.ireturn, 1) := by decide +kernel
def Nm_checkTold (p1 : Int32) (p2 : Int32) (σ : nm_St) : Option (Int32 × nm_St) :=
  ((Nm_checkFirst p1 p2 σ).bind fun q1 =>
  (if q1.1 = 0 then
    (if p2 ≤ (40 : Int32) then
      some (q1.1, q1.2)
    else
      some ((-6 : Int32), q1.2))
  else
    some (q1.1, q1.2)))
set_option maxRecDepth 100000 in
set_option maxHeartbeats 4000000 in
theorem ct_Nm_checkTold (X : nm_X) (p1 : Int32) (p2 : Int32) (σ : nm_St) : Ct X mi_Nm_checkTold 3 nm_wI [.ref 0, .int p1, .int p2] σ (Nm_checkTold p1 p2 σ) := by
  refine Ct.of (by decide +kernel) rfl (fun F hF0 => ?_)
  unfold Nm_checkTold
  refine rn_aload_n (pc := 0) 0 dk_Nm_checkTold_0 rfl rfl rfl ?_
  refine rn_iload_n (pc := 1) 1 dk_Nm_checkTold_1 rfl rfl ?_
  refine rn_iload_n (pc := 2) 2 dk_Nm_checkTold_2 rfl rfl ?_
  refine cl_Nm_258 (pc := 3) (As := [.int p1, .int p2]) (st := []) rfl (ct_Nm_checkFirst X p1 p2 σ) (Nat.le_trans (Nat.le_of_ble_eq_true rfl) hF0) rfl rfl (Nat.le_of_ble_eq_true rfl) dk_Nm_checkTold_3 (fun q1 => ?_)
  refine rn_istore_n (pc := 6) 3 dk_Nm_checkTold_6 rfl rfl rfl ?_
  refine rn_iload_n (pc := 7) 3 dk_Nm_checkTold_7 rfl rfl ?_
  refine rn_if_ne (pc := 8) 22 dk_Nm_checkTold_8 (by decide) (fun c2 => ?_) (fun c2 => ?_)
  · refine rn_iload_n (pc := 22) 3 dk_Nm_checkTold_22 rfl rfl ?_
    exact rn_iret rfl dk_Nm_checkTold_23
  · refine rn_iload_n (pc := 11) 2 dk_Nm_checkTold_11 rfl rfl ?_
    refine rn_bipush (pc := 12) (40 : Int32) dk_Nm_checkTold_12 cn_b_40 ?_
    refine rn_icmp_le (pc := 14) 22 dk_Nm_checkTold_14 (by decide) (fun c3 => ?_) (fun c3 => ?_)
    · refine rn_iload_n (pc := 22) 3 dk_Nm_checkTold_22 rfl rfl ?_
      exact rn_iret rfl dk_Nm_checkTold_23
    · refine rn_bipush (pc := 17) (-6 : Int32) dk_Nm_checkTold_17 cn_b_m6 ?_
      refine rn_goto (pc := 19) 23 dk_Nm_checkTold_19 (by decide) ?_
      exact rn_iret rfl dk_Nm_checkTold_23
theorem dk_Is_passMonth_0 : decode mi_Is_passMonth.2.1 0 = .ok (.aload_n 0, 1) := by decide +kernel
theorem dk_Is_passMonth_1 : decode mi_Is_passMonth.2.1 1 = .ok (.invokevirtual 86, 3) := by decide +kernel
theorem dk_Is_passMonth_4 : decode mi_Is_passMonth.2.1 4 = .ok (.istore_n 1, 1) := by decide +kernel
theorem dk_Is_passMonth_5 : decode mi_Is_passMonth.2.1 5 = .ok (.iconst 0, 1) := by decide +kernel
theorem dk_Is_passMonth_6 : decode mi_Is_passMonth.2.1 6 = .ok (.istore_n 2, 1) := by decide +kernel
theorem dk_Is_passMonth_7 : decode mi_Is_passMonth.2.1 7 = .ok (.iconst 0, 1) := by decide +kernel
theorem dk_Is_passMonth_8 : decode mi_Is_passMonth.2.1 8 = .ok (.istore_n 3, 1) := by decide +kernel
theorem dk_Is_passMonth_9 : decode mi_Is_passMonth.2.1 9 = .ok (.iload_n 3, 1) := by decide +kernel
theorem dk_Is_passMonth_10 : decode mi_Is_passMonth.2.1 10 = .ok (.bipush 8, 2) := by decide +kernel
theorem dk_Is_passMonth_12 : decode mi_Is_passMonth.2.1 12 = .ok (.if_icmp .ge 50, 3) := by decide +kernel
theorem dk_Is_passMonth_15 : decode mi_Is_passMonth.2.1 15 = .ok (.aload_n 0, 1) := by decide +kernel
theorem dk_Is_passMonth_16 : decode mi_Is_passMonth.2.1 16 = .ok (.iload_n 3, 1) := by decide +kernel
theorem dk_Is_passMonth_17 : decode mi_Is_passMonth.2.1 17 = .ok (.iconst 1, 1) := by decide +kernel
theorem dk_Is_passMonth_18 : decode mi_Is_passMonth.2.1 18 = .ok (.invokevirtual 77, 3) := by decide +kernel
theorem dk_Is_passMonth_21 : decode mi_Is_passMonth.2.1 21 = .ok (.ifCond .eq 35, 3) := by decide +kernel
theorem dk_Is_passMonth_24 : decode mi_Is_passMonth.2.1 24 = .ok (.aload_n 0, 1) := by decide +kernel
theorem dk_Is_passMonth_25 : decode mi_Is_passMonth.2.1 25 = .ok (.getfield 9, 3) := by decide +kernel
theorem dk_Is_passMonth_28 : decode mi_Is_passMonth.2.1 28 = .ok (.iload_n 3, 1) := by decide +kernel
theorem dk_Is_passMonth_29 : decode mi_Is_passMonth.2.1 29 = .ok (.iaload, 1) := by decide +kernel
theorem dk_Is_passMonth_30 : decode mi_Is_passMonth.2.1 30 = .ok (.iconst 2, 1) := by decide +kernel
theorem dk_Is_passMonth_31 : decode mi_Is_passMonth.2.1 31 = .ok (.invokestatic 70, 3) := by decide +kernel
theorem dk_Is_passMonth_34 : decode mi_Is_passMonth.2.1 34 = .ok (.ifCond .eq 22, 3) := by decide +kernel
theorem dk_Is_passMonth_37 : decode mi_Is_passMonth.2.1 37 = .ok (.aload_n 0, 1) := by decide +kernel
theorem dk_Is_passMonth_38 : decode mi_Is_passMonth.2.1 38 = .ok (.iload_n 3, 1) := by decide +kernel
theorem dk_Is_passMonth_39 : decode mi_Is_passMonth.2.1 39 = .ok (.iconst 0, 1) := by decide +kernel
theorem dk_Is_passMonth_40 : decode mi_Is_passMonth.2.1 40 = .ok (.invokevirtual 112, 3) := by decide +kernel
theorem dk_Is_passMonth_43 : decode mi_Is_passMonth.2.1 43 = .ok (.aload_n 0, 1) := by decide +kernel
theorem dk_Is_passMonth_44 : decode mi_Is_passMonth.2.1 44 = .ok (.getfield 21, 3) := by decide +kernel
theorem dk_Is_passMonth_47 : decode mi_Is_passMonth.2.1 47 = .ok (.iload_n 3, 1) := by decide +kernel
theorem dk_Is_passMonth_48 : decode mi_Is_passMonth.2.1 48 = .ok (.dup2, 1) := by decide +kernel
theorem dk_Is_passMonth_49 : decode mi_Is_passMonth.2.1 49 = .ok (.iaload, 1) := by decide +kernel
theorem dk_Is_passMonth_50 : decode mi_Is_passMonth.2.1 50 = .ok (.iload_n 1, 1) := by decide +kernel
theorem dk_Is_passMonth_51 : decode mi_Is_passMonth.2.1 51 = .ok (.ior, 1) := by decide +kernel
theorem dk_Is_passMonth_52 : decode mi_Is_passMonth.2.1 52 = .ok (.iastore, 1) := by decide +kernel
theorem dk_Is_passMonth_53 : decode mi_Is_passMonth.2.1 53 = .ok (.iinc 2 1, 3) := by decide +kernel
theorem dk_Is_passMonth_56 : decode mi_Is_passMonth.2.1 56 = .ok (.iinc 3 1, 3) := by decide +kernel
theorem dk_Is_passMonth_59 : decode mi_Is_passMonth.2.1 59 = .ok (.goto (-50), 3) := by decide +kernel
theorem dk_Is_passMonth_62 : decode mi_Is_passMonth.2.1 62 = .ok (.aload_n 0, 1) := by decide +kernel
theorem dk_Is_passMonth_63 : decode mi_Is_passMonth.2.1 63 = .ok (.iconst 0, 1) := by decide +kernel
theorem dk_Is_passMonth_64 : decode mi_Is_passMonth.2.1 64 = .ok (.aload_n 0, 1) := by decide +kernel
theorem dk_Is_passMonth_65 : decode mi_Is_passMonth.2.1 65 = .ok (.getfield 37, 3) := by decide +kernel
theorem dk_Is_passMonth_68 : decode mi_Is_passMonth.2.1 68 = .ok (.iconst 1, 1) := by decide +kernel
theorem dk_Is_passMonth_69 : decode mi_Is_passMonth.2.1 69 = .ok (.isub, 1) := by decide +kernel
theorem dk_Is_passMonth_70 : decode mi_Is_passMonth.2.1 70 = .ok (.invokestatic 106, 3) := by decide +kernel
theorem dk_Is_passMonth_73 : decode mi_Is_passMonth.2.1 73 = .ok (.putfield 37, 3) := by decide +kernel
theorem dk_Is_passMonth_76 : decode mi_Is_passMonth.2.1 76 = .ok (.aload_n 0, 1) := by decide +kernel
theorem dk_Is_passMonth_77 : decode mi_Is_passMonth.2.1 77 = .ok (.dup, 1) := by decide +kernel
theorem dk_Is_passMonth_78 : decode mi_Is_passMonth.2.1 78 = .ok (.getfield 43, 3) := by decide +kernel
theorem dk_Is_passMonth_81 : decode mi_Is_passMonth.2.1 81 = .ok (.iconst 1, 1) := by decide +kernel
theorem dk_Is_passMonth_82 : decode mi_Is_passMonth.2.1 82 = .ok (.iadd, 1) := by decide +kernel
theorem dk_Is_passMonth_83 : decode mi_Is_passMonth.2.1 83 = .ok (.putfield 43, 3) := by decide +kernel
theorem dk_Is_passMonth_86 : decode mi_Is_passMonth.2.1 86 = .ok (.iload_n 2, 1) := by decide +kernel
theorem dk_Is_passMonth_87 : decode mi_Is_passMonth.2.1 87 = .ok (.ireturn, 1) := by decide +kernel
def Is_passMonth_l9 (o : Nat) (k_62 : Int32 → nm_St → Option (Int32 × nm_St)) : Nat → Int32 → Int32 → Int32 → nm_St → Option (Int32 × nm_St)
  | 0, _, _, _, _ => none
  | n + 1, x1, x2, x3, σ =>
    (if (8 : Int32) ≤ x3 then
      k_62 x2 σ
    else
      ((Is_isAt o x3 (1 : Int32) σ).bind fun q3 =>
      (if q3.1 = 0 then
        (Is_passMonth_l9 o k_62 n) x1 x2 (x3 + (1 : Int32)) q3.2
      else
        (nm_g (nm_in x3 8) (
        ((Nm_isUnder (q3.2.1 (o + 1) x3.toNatClampNeg) (2 : Int32) q3.2).bind fun q6 =>
        (if q6.1 = 0 then
          (Is_passMonth_l9 o k_62 n) x1 x2 (x3 + (1 : Int32)) q6.2
        else
          ((Is_moveTo o x3 (0 : Int32) q6.2).bind fun q8 =>
          (nm_g (nm_in x3 8) (
          (nm_g (nm_in x3 8) (
          (nm_let (nm_pI q8.2 (o + 4) x3.toNatClampNeg ((q8.2.1 (o + 4) x3.toNatClampNeg) ||| x1)) fun s11 =>
          (Is_passMonth_l9 o k_62 n) x1 (x2 + (1 : Int32)) (x3 + (1 : Int32)) s11)))))))))))))
set_option maxRecDepth 100000 in
set_option maxHeartbeats 4000000 in
theorem r_Is_passMonth_l9 (X : nm_X) (F : nm_F) (hF0 : 3 ≤ nm_d F) (o : Nat) (ho : nm_isl o = true) (k_62 : Int32 → nm_St → Option (Int32 × nm_St)) (hk_62 : ∀ (x2 : Int32) (σ : nm_St), Rn X mi_Is_passMonth F (nm_Qf X F nm_wI) [(0, .ref o), (2, .int x2)] [] 62 σ (k_62 x2 σ)) : ∀ (n : Nat) (x1 : Int32) (x2 : Int32) (x3 : Int32) (σ : nm_St), Rn X mi_Is_passMonth F (nm_Qf X F nm_wI) [(0, .ref o), (1, .int x1), (2, .int x2), (3, .int x3)] [] 9 σ (Is_passMonth_l9 o k_62 n x1 x2 x3 σ) := by
  intro n
  induction n with
  | zero =>
    intro x1 x2 x3 σ
    exact rn_none
  | succ n ih =>
    intro x1 x2 x3 σ
    unfold Is_passMonth_l9
    refine rn_iload_n (pc := 9) 3 dk_Is_passMonth_9 rfl rfl ?_
    refine rn_bipush (pc := 10) (8 : Int32) dk_Is_passMonth_10 cn_b_8 ?_
    refine rn_icmp_ge (pc := 12) 62 dk_Is_passMonth_12 (by decide) (fun c2 => ?_) (fun c2 => ?_)
    · exact rn_sub (by rfl) (hk_62 x2 σ)
    · refine rn_aload_n (pc := 15) 0 dk_Is_passMonth_15 rfl rfl (nm_rok_isl ho) ?_
      refine rn_iload_n (pc := 16) 3 dk_Is_passMonth_16 rfl rfl ?_
      refine rn_iconst (pc := 17) (1 : Int32) dk_Is_passMonth_17 cn_i_1 ?_
      refine cl_Is_77 (pc := 18) (As := [.int x3, .int (1 : Int32)]) (st := []) o ho rfl (ct_Is_isAt X o ho x3 (1 : Int32) σ) (Nat.le_trans (Nat.le_of_ble_eq_true rfl) hF0) rfl rfl (Nat.le_of_ble_eq_true rfl) dk_Is_passMonth_18 (fun q3 => ?_)
      refine rn_if_eq (pc := 21) 56 dk_Is_passMonth_21 (by decide) (fun c4 => ?_) (fun c4 => ?_)
      · refine rn_iinc (pc := 56) (1 : Int32) dk_Is_passMonth_56 cn_i_1 rfl rfl rfl ?_
        refine rn_goto (pc := 59) 9 dk_Is_passMonth_59 (by decide) ?_
        exact rn_sub (by rfl) (ih x1 x2 (x3 + (1 : Int32)) q3.2)
      · refine rn_aload_n (pc := 24) 0 dk_Is_passMonth_24 rfl rfl (nm_rok_isl ho) ?_
        refine gf_Is_9 (pc := 25) o ho rfl dk_Is_passMonth_25 ?_
        refine rn_iload_n (pc := 28) 3 dk_Is_passMonth_28 rfl rfl ?_
        refine rn_iaload (pc := 29) (nm_i1 ho) dk_Is_passMonth_29 (fun g5 => ?_)
        refine rn_iconst (pc := 30) (2 : Int32) dk_Is_passMonth_30 cn_i_2 ?_
        refine cl_Is_70 (pc := 31) (As := [.int (q3.2.1 (o + 1) x3.toNatClampNeg), .int (2 : Int32)]) (st := []) rfl (ct_Nm_isUnder X (q3.2.1 (o + 1) x3.toNatClampNeg) (2 : Int32) q3.2) (Nat.le_trans (Nat.le_of_ble_eq_true rfl) hF0) rfl rfl (Nat.le_of_ble_eq_true rfl) dk_Is_passMonth_31 (fun q6 => ?_)
        refine rn_if_eq (pc := 34) 56 dk_Is_passMonth_34 (by decide) (fun c7 => ?_) (fun c7 => ?_)
        · refine rn_iinc (pc := 56) (1 : Int32) dk_Is_passMonth_56 cn_i_1 rfl rfl rfl ?_
          refine rn_goto (pc := 59) 9 dk_Is_passMonth_59 (by decide) ?_
          exact rn_sub (by rfl) (ih x1 x2 (x3 + (1 : Int32)) q6.2)
        · refine rn_aload_n (pc := 37) 0 dk_Is_passMonth_37 rfl rfl (nm_rok_isl ho) ?_
          refine rn_iload_n (pc := 38) 3 dk_Is_passMonth_38 rfl rfl ?_
          refine rn_iconst (pc := 39) (0 : Int32) dk_Is_passMonth_39 cn_i_0 ?_
          refine cl_Is_112 (pc := 40) (As := [.int x3, .int (0 : Int32)]) (st := []) o ho rfl (ct_Is_moveTo X o ho x3 (0 : Int32) q6.2) (Nat.le_trans (Nat.le_of_ble_eq_true rfl) hF0) rfl rfl (Nat.le_of_ble_eq_true rfl) dk_Is_passMonth_40 (fun q8 => ?_)
          refine rn_aload_n (pc := 43) 0 dk_Is_passMonth_43 rfl rfl (nm_rok_isl ho) ?_
          refine gf_Is_21 (pc := 44) o ho rfl dk_Is_passMonth_44 ?_
          refine rn_iload_n (pc := 47) 3 dk_Is_passMonth_47 rfl rfl ?_
          refine rn_dup2 (pc := 48) dk_Is_passMonth_48 rfl rfl ?_
          refine rn_iaload (pc := 49) (nm_i4 ho) dk_Is_passMonth_49 (fun g9 => ?_)
          refine rn_iload_n (pc := 50) 1 dk_Is_passMonth_50 rfl rfl ?_
          refine rn_ior (pc := 51) dk_Is_passMonth_51 ?_
          refine rn_iastore (pc := 52) (nm_i4 ho) dk_Is_passMonth_52 (fun g10 => ?_)
          refine rn_lets (fun s11 => ?_)
          refine rn_iinc (pc := 53) (1 : Int32) dk_Is_passMonth_53 cn_i_1 rfl rfl rfl ?_
          refine rn_iinc (pc := 56) (1 : Int32) dk_Is_passMonth_56 cn_i_1 rfl rfl rfl ?_
          refine rn_goto (pc := 59) 9 dk_Is_passMonth_59 (by decide) ?_
          exact rn_sub (by rfl) (ih x1 (x2 + (1 : Int32)) (x3 + (1 : Int32)) s11)
def Is_passMonth (o : Nat) (σ : nm_St) : Option (Int32 × nm_St) :=
  ((Is_knownAbroad o σ).bind fun q1 =>
  Is_passMonth_l9 o (fun (e13 : Int32) (s12 : nm_St) =>
    (nm_let ((if (0 : Int32) < ((s12.1 o 8) - (1 : Int32)) then ((s12.1 o 8) - (1 : Int32)) else (0 : Int32))) fun v14 =>
    (nm_let (nm_pI s12 o 8 v14) fun s15 =>
    (nm_let (nm_pI s15 o 10 ((s15.1 o 10) + (1 : Int32))) fun s16 =>
    some (e13, s16))))) 400 q1.1 (0 : Int32) (0 : Int32) q1.2)
set_option maxRecDepth 100000 in
set_option maxHeartbeats 4000000 in
theorem ct_Is_passMonth (X : nm_X) (o : Nat) (ho : nm_isl o = true) (σ : nm_St) : Ct X mi_Is_passMonth 3 nm_wI [.ref o] σ (Is_passMonth o σ) := by
  refine Ct.of (by decide +kernel) rfl (fun F hF0 => ?_)
  unfold Is_passMonth
  refine rn_aload_n (pc := 0) 0 dk_Is_passMonth_0 rfl rfl (nm_rok_isl ho) ?_
  refine cl_Is_86 (pc := 1) (As := []) (st := []) o ho rfl (ct_Is_knownAbroad X o ho σ) (Nat.le_trans (Nat.le_of_ble_eq_true rfl) hF0) rfl rfl (Nat.le_of_ble_eq_true rfl) dk_Is_passMonth_1 (fun q1 => ?_)
  refine rn_istore_n (pc := 4) 1 dk_Is_passMonth_4 rfl rfl rfl ?_
  refine rn_iconst (pc := 5) (0 : Int32) dk_Is_passMonth_5 cn_i_0 ?_
  refine rn_istore_n (pc := 6) 2 dk_Is_passMonth_6 rfl rfl rfl ?_
  refine rn_iconst (pc := 7) (0 : Int32) dk_Is_passMonth_7 cn_i_0 ?_
  refine rn_istore_n (pc := 8) 3 dk_Is_passMonth_8 rfl rfl rfl ?_
  refine rn_sub (by rfl) (r_Is_passMonth_l9 X F hF0 o ho _ (fun e13 s12 => ?_) 400 q1.1 (0 : Int32) (0 : Int32) q1.2)
  refine rn_aload_n (pc := 62) 0 dk_Is_passMonth_62 rfl rfl (nm_rok_isl ho) ?_
  refine rn_iconst (pc := 63) (0 : Int32) dk_Is_passMonth_63 cn_i_0 ?_
  refine rn_aload_n (pc := 64) 0 dk_Is_passMonth_64 rfl rfl (nm_rok_isl ho) ?_
  refine gf_Is_37 (pc := 65) o ho rfl dk_Is_passMonth_65 ?_
  refine rn_iconst (pc := 68) (1 : Int32) dk_Is_passMonth_68 cn_i_1 ?_
  refine rn_isub (pc := 69) dk_Is_passMonth_69 ?_
  refine rn_mmax (pc := 70) (Nat.le_trans (Nat.le_of_ble_eq_true rfl) hF0) wd_464 (Nat.le_of_ble_eq_true rfl) dk_Is_passMonth_70 ?_
  refine rn_leti (fun v14 => ?_)
  refine pf_Is_37 (pc := 73) o ho rfl dk_Is_passMonth_73 ?_
  refine rn_lets (fun s15 => ?_)
  refine rn_aload_n (pc := 76) 0 dk_Is_passMonth_76 rfl rfl (nm_rok_isl ho) ?_
  refine rn_dup (pc := 77) dk_Is_passMonth_77 rfl ?_
  refine gf_Is_43 (pc := 78) o ho rfl dk_Is_passMonth_78 ?_
  refine rn_iconst (pc := 81) (1 : Int32) dk_Is_passMonth_81 cn_i_1 ?_
  refine rn_iadd (pc := 82) dk_Is_passMonth_82 ?_
  refine pf_Is_43 (pc := 83) o ho rfl dk_Is_passMonth_83 ?_
  refine rn_lets (fun s16 => ?_)
  refine rn_iload_n (pc := 86) 2 dk_Is_passMonth_86 rfl rfl ?_
  exact rn_iret rfl dk_Is_passMonth_87
theorem dk_Is_canBeBid_0 : decode mi_Is_canBeBid.2.1 0 = .ok (.aload_n 0, 1) := by decide +kernel
theorem dk_Is_canBeBid_1 : decode mi_Is_canBeBid.2.1 1 = .ok (.iload_n 1, 1) := by decide +kernel
theorem dk_Is_canBeBid_2 : decode mi_Is_canBeBid.2.1 2 = .ok (.iconst 0, 1) := by decide +kernel
theorem dk_Is_canBeBid_3 : decode mi_Is_canBeBid.2.1 3 = .ok (.invokevirtual 77, 3) := by decide +kernel
theorem dk_Is_canBeBid_6 : decode mi_Is_canBeBid.2.1 6 = .ok (.ifCond .eq 19, 3) := by decide +kernel
theorem dk_Is_canBeBid_9 : decode mi_Is_canBeBid.2.1 9 = .ok (.iload_n 2, 1) := by decide +kernel
theorem dk_Is_canBeBid_10 : decode mi_Is_canBeBid.2.1 10 = .ok (.ifCond .lt 15, 3) := by decide +kernel
theorem dk_Is_canBeBid_13 : decode mi_Is_canBeBid.2.1 13 = .ok (.iload_n 2, 1) := by decide +kernel
theorem dk_Is_canBeBid_14 : decode mi_Is_canBeBid.2.1 14 = .ok (.aload_n 0, 1) := by decide +kernel
theorem dk_Is_canBeBid_15 : decode mi_Is_canBeBid.2.1 15 = .ok (.getfield 40, 3) := by decide +kernel
theorem dk_Is_canBeBid_18 : decode mi_Is_canBeBid.2.1 18 = .ok (.if_icmp .gt 7, 3) := by decide +kernel
theorem dk_Is_canBeBid_21 : decode mi_Is_canBeBid.2.1 21 = .ok (.iconst 1, 1) := by decide +kernel
theorem dk_Is_canBeBid_22 : decode mi_Is_canBeBid.2.1 22 = .ok (.goto 4, 3) := by decide +kernel
theorem dk_Is_canBeBid_25 : decode mi_Is_canBeBid.2.1 25 = .ok (.iconst 0, 1) := by decide +kernel
theorem dk_Is_canBeBid_26 : decode mi_Is_canBeBid.2.1 26 = .ok (.ireturn, 1) := by decide +kernel
def Is_canBeBid (o : Nat) (p1 : Int32) (p2 : Int32) (σ : nm_St) : Option (Int32 × nm_St) :=
  ((Is_isAt o p1 (0 : Int32) σ).bind fun q1 =>
  (if q1.1 = 0 then
    some ((0 : Int32), q1.2)
  else
    (if p2 < 0 then
      some ((0 : Int32), q1.2)
    else
      (if (q1.2.1 o 9) < p2 then
        some ((0 : Int32), q1.2)
      else
        some ((1 : Int32), q1.2)))))
set_option maxRecDepth 100000 in
set_option maxHeartbeats 4000000 in
theorem ct_Is_canBeBid (X : nm_X) (o : Nat) (ho : nm_isl o = true) (p1 : Int32) (p2 : Int32) (σ : nm_St) : Ct X mi_Is_canBeBid 1 nm_wI [.ref o, .int p1, .int p2] σ (Is_canBeBid o p1 p2 σ) := by
  refine Ct.of (by decide +kernel) rfl (fun F hF0 => ?_)
  unfold Is_canBeBid
  refine rn_aload_n (pc := 0) 0 dk_Is_canBeBid_0 rfl rfl (nm_rok_isl ho) ?_
  refine rn_iload_n (pc := 1) 1 dk_Is_canBeBid_1 rfl rfl ?_
  refine rn_iconst (pc := 2) (0 : Int32) dk_Is_canBeBid_2 cn_i_0 ?_
  refine cl_Is_77 (pc := 3) (As := [.int p1, .int (0 : Int32)]) (st := []) o ho rfl (ct_Is_isAt X o ho p1 (0 : Int32) σ) (Nat.le_trans (Nat.le_of_ble_eq_true rfl) hF0) rfl rfl (Nat.le_of_ble_eq_true rfl) dk_Is_canBeBid_3 (fun q1 => ?_)
  refine rn_if_eq (pc := 6) 25 dk_Is_canBeBid_6 (by decide) (fun c2 => ?_) (fun c2 => ?_)
  · refine rn_iconst (pc := 25) (0 : Int32) dk_Is_canBeBid_25 cn_i_0 ?_
    exact rn_zret (ty := .boolean) rfl rfl dk_Is_canBeBid_26
  · refine rn_iload_n (pc := 9) 2 dk_Is_canBeBid_9 rfl rfl ?_
    refine rn_if_lt (pc := 10) 25 dk_Is_canBeBid_10 (by decide) (fun c3 => ?_) (fun c3 => ?_)
    · refine rn_iconst (pc := 25) (0 : Int32) dk_Is_canBeBid_25 cn_i_0 ?_
      exact rn_zret (ty := .boolean) rfl rfl dk_Is_canBeBid_26
    · refine rn_iload_n (pc := 13) 2 dk_Is_canBeBid_13 rfl rfl ?_
      refine rn_aload_n (pc := 14) 0 dk_Is_canBeBid_14 rfl rfl (nm_rok_isl ho) ?_
      refine gf_Is_40 (pc := 15) o ho rfl dk_Is_canBeBid_15 ?_
      refine rn_icmp_gt (pc := 18) 25 dk_Is_canBeBid_18 (by decide) (fun c4 => ?_) (fun c4 => ?_)
      · refine rn_iconst (pc := 25) (0 : Int32) dk_Is_canBeBid_25 cn_i_0 ?_
        exact rn_zret (ty := .boolean) rfl rfl dk_Is_canBeBid_26
      · refine rn_iconst (pc := 21) (1 : Int32) dk_Is_canBeBid_21 cn_i_1 ?_
        refine rn_goto (pc := 22) 26 dk_Is_canBeBid_22 (by decide) ?_
        exact rn_zret (ty := .boolean) rfl rfl dk_Is_canBeBid_26
theorem dk_Is_takeBid_0 : decode mi_Is_takeBid.2.1 0 = .ok (.aload_n 0, 1) := by decide +kernel
theorem dk_Is_takeBid_1 : decode mi_Is_takeBid.2.1 1 = .ok (.iload_n 1, 1) := by decide +kernel
theorem dk_Is_takeBid_2 : decode mi_Is_takeBid.2.1 2 = .ok (.iload_n 2, 1) := by decide +kernel
theorem dk_Is_takeBid_3 : decode mi_Is_takeBid.2.1 3 = .ok (.invokevirtual 109, 3) := by decide +kernel
theorem dk_Is_takeBid_6 : decode mi_Is_takeBid.2.1 6 = .ok (.ifCond .eq 12, 3) := by decide +kernel
theorem dk_Is_takeBid_9 : decode mi_Is_takeBid.2.1 9 = .ok (.iload_n 2, 1) := by decide +kernel
theorem dk_Is_takeBid_10 : decode mi_Is_takeBid.2.1 10 = .ok (.aload_n 0, 1) := by decide +kernel
theorem dk_Is_takeBid_11 : decode mi_Is_takeBid.2.1 11 = .ok (.iload_n 1, 1) := by decide +kernel
theorem dk_Is_takeBid_12 : decode mi_Is_takeBid.2.1 12 = .ok (.invokevirtual 66, 3) := by decide +kernel
theorem dk_Is_takeBid_15 : decode mi_Is_takeBid.2.1 15 = .ok (.if_icmp .ge 5, 3) := by decide +kernel
theorem dk_Is_takeBid_18 : decode mi_Is_takeBid.2.1 18 = .ok (.iconst 0, 1) := by decide +kernel
theorem dk_Is_takeBid_19 : decode mi_Is_takeBid.2.1 19 = .ok (.ireturn, 1) := by decide +kernel
theorem dk_Is_takeBid_20 : decode mi_Is_takeBid.2.1 20 = .ok (.aload_n 0, 1) := by decide +kernel
theorem dk_Is_takeBid_21 : decode mi_Is_takeBid.2.1 21 = .ok (.iload_n 1, 1) := by decide +kernel
theorem dk_Is_takeBid_22 : decode mi_Is_takeBid.2.1 22 = .ok (.iconst 1, 1) := by decide +kernel
theorem dk_Is_takeBid_23 : decode mi_Is_takeBid.2.1 23 = .ok (.invokevirtual 112, 3) := by decide +kernel
theorem dk_Is_takeBid_26 : decode mi_Is_takeBid.2.1 26 = .ok (.aload_n 0, 1) := by decide +kernel
theorem dk_Is_takeBid_27 : decode mi_Is_takeBid.2.1 27 = .ok (.dup, 1) := by decide +kernel
theorem dk_Is_takeBid_28 : decode mi_Is_takeBid.2.1 28 = .ok (.getfield 40, 3) := by decide +kernel
theorem dk_Is_takeBid_31 : decode mi_Is_takeBid.2.1 31 = .ok (.iload_n 2, 1) := by decide +kernel
theorem dk_Is_takeBid_32 : decode mi_Is_takeBid.2.1 32 = .ok (.isub, 1) := by decide +kernel
theorem dk_Is_takeBid_33 : decode mi_Is_takeBid.2.1 33 = .ok (.putfield 40, 3) := by decide +kernel
theorem dk_Is_takeBid_36 : decode mi_Is_takeBid.2.1 36 = .ok (.iconst 1, 1) := by decide +kernel
theorem dk_Is_takeBid_37 : decode mi_Is_takeBid.2.1 37 = .ok (.ireturn, 1) := by decide +kernel
def Is_takeBid (o : Nat) (p1 : Int32) (p2 : Int32) (σ : nm_St) : Option (Int32 × nm_St) :=
  ((Is_canBeBid o p1 p2 σ).bind fun q1 =>
  (if q1.1 = 0 then
    some ((0 : Int32), q1.2)
  else
    ((Is_priceOf o p1 q1.2).bind fun q3 =>
    (if q3.1 ≤ p2 then
      ((Is_moveTo o p1 (1 : Int32) q3.2).bind fun q5 =>
      (nm_let (nm_pI q5.2 o 9 ((q5.2.1 o 9) - p2)) fun s6 =>
      some ((1 : Int32), s6)))
    else
      some ((0 : Int32), q3.2)))))
set_option maxRecDepth 100000 in
set_option maxHeartbeats 4000000 in
theorem ct_Is_takeBid (X : nm_X) (o : Nat) (ho : nm_isl o = true) (p1 : Int32) (p2 : Int32) (σ : nm_St) : Ct X mi_Is_takeBid 3 nm_wI [.ref o, .int p1, .int p2] σ (Is_takeBid o p1 p2 σ) := by
  refine Ct.of (by decide +kernel) rfl (fun F hF0 => ?_)
  unfold Is_takeBid
  refine rn_aload_n (pc := 0) 0 dk_Is_takeBid_0 rfl rfl (nm_rok_isl ho) ?_
  refine rn_iload_n (pc := 1) 1 dk_Is_takeBid_1 rfl rfl ?_
  refine rn_iload_n (pc := 2) 2 dk_Is_takeBid_2 rfl rfl ?_
  refine cl_Is_109 (pc := 3) (As := [.int p1, .int p2]) (st := []) o ho rfl (ct_Is_canBeBid X o ho p1 p2 σ) (Nat.le_trans (Nat.le_of_ble_eq_true rfl) hF0) rfl rfl (Nat.le_of_ble_eq_true rfl) dk_Is_takeBid_3 (fun q1 => ?_)
  refine rn_if_eq (pc := 6) 18 dk_Is_takeBid_6 (by decide) (fun c2 => ?_) (fun c2 => ?_)
  · refine rn_iconst (pc := 18) (0 : Int32) dk_Is_takeBid_18 cn_i_0 ?_
    exact rn_zret (ty := .boolean) rfl rfl dk_Is_takeBid_19
  · refine rn_iload_n (pc := 9) 2 dk_Is_takeBid_9 rfl rfl ?_
    refine rn_aload_n (pc := 10) 0 dk_Is_takeBid_10 rfl rfl (nm_rok_isl ho) ?_
    refine rn_iload_n (pc := 11) 1 dk_Is_takeBid_11 rfl rfl ?_
    refine cl_Is_66 (pc := 12) (As := [.int p1]) (st := [.int p2]) o ho rfl (ct_Is_priceOf X o ho p1 q1.2) (Nat.le_trans (Nat.le_of_ble_eq_true rfl) hF0) rfl rfl (Nat.le_of_ble_eq_true rfl) dk_Is_takeBid_12 (fun q3 => ?_)
    refine rn_icmp_ge (pc := 15) 20 dk_Is_takeBid_15 (by decide) (fun c4 => ?_) (fun c4 => ?_)
    · refine rn_aload_n (pc := 20) 0 dk_Is_takeBid_20 rfl rfl (nm_rok_isl ho) ?_
      refine rn_iload_n (pc := 21) 1 dk_Is_takeBid_21 rfl rfl ?_
      refine rn_iconst (pc := 22) (1 : Int32) dk_Is_takeBid_22 cn_i_1 ?_
      refine cl_Is_112 (pc := 23) (As := [.int p1, .int (1 : Int32)]) (st := []) o ho rfl (ct_Is_moveTo X o ho p1 (1 : Int32) q3.2) (Nat.le_trans (Nat.le_of_ble_eq_true rfl) hF0) rfl rfl (Nat.le_of_ble_eq_true rfl) dk_Is_takeBid_23 (fun q5 => ?_)
      refine rn_aload_n (pc := 26) 0 dk_Is_takeBid_26 rfl rfl (nm_rok_isl ho) ?_
      refine rn_dup (pc := 27) dk_Is_takeBid_27 rfl ?_
      refine gf_Is_40 (pc := 28) o ho rfl dk_Is_takeBid_28 ?_
      refine rn_iload_n (pc := 31) 2 dk_Is_takeBid_31 rfl rfl ?_
      refine rn_isub (pc := 32) dk_Is_takeBid_32 ?_
      refine pf_Is_40 (pc := 33) o ho rfl dk_Is_takeBid_33 ?_
      refine rn_lets (fun s6 => ?_)
      refine rn_iconst (pc := 36) (1 : Int32) dk_Is_takeBid_36 cn_i_1 ?_
      exact rn_zret (ty := .boolean) rfl rfl dk_Is_takeBid_37
    · refine rn_iconst (pc := 18) (0 : Int32) dk_Is_takeBid_18 cn_i_0 ?_
      exact rn_zret (ty := .boolean) rfl rfl dk_Is_takeBid_19
theorem dk_Is_comesTrue_0 : decode mi_Is_comesTrue.2.1 0 = .ok (.iload_n 1, 1) := by decide +kernel
theorem dk_Is_comesTrue_1 : decode mi_Is_comesTrue.2.1 1 = .ok (.ifCond .ne 10, 3) := by decide +kernel
theorem dk_Is_comesTrue_4 : decode mi_Is_comesTrue.2.1 4 = .ok (.aload_n 0, 1) := by decide +kernel
theorem dk_Is_comesTrue_5 : decode mi_Is_comesTrue.2.1 5 = .ok (.invokevirtual 137, 3) := by decide +kernel
theorem dk_Is_comesTrue_8 : decode mi_Is_comesTrue.2.1 8 = .ok (.pop, 1) := by decide +kernel
theorem dk_Is_comesTrue_9 : decode mi_Is_comesTrue.2.1 9 = .ok (.iconst 1, 1) := by decide +kernel
theorem dk_Is_comesTrue_10 : decode mi_Is_comesTrue.2.1 10 = .ok (.ireturn, 1) := by decide +kernel
theorem dk_Is_comesTrue_11 : decode mi_Is_comesTrue.2.1 11 = .ok (.iload_n 1, 1) := by decide +kernel
theorem dk_Is_comesTrue_12 : decode mi_Is_comesTrue.2.1 12 = .ok (.bipush 100, 2) := by decide +kernel
theorem dk_Is_comesTrue_14 : decode mi_Is_comesTrue.2.1 14 = .ok (.if_icmp .ge 5, 3) := by decide +kernel
theorem dk_Is_comesTrue_17 : decode mi_Is_comesTrue.2.1 17 = .ok (.iconst 0, 1) := by decide +kernel
theorem dk_Is_comesTrue_18 : decode mi_Is_comesTrue.2.1 18 = .ok (.ireturn, 1) := by decide +kernel
theorem dk_Is_comesTrue_19 : decode mi_Is_comesTrue.2.1 19 = .ok (.iload_n 1, 1) := by decide +kernel
theorem dk_Is_comesTrue_20 : decode mi_Is_comesTrue.2.1 20 = .ok (.bipush 100, 2) := by decide +kernel
theorem dk_Is_comesTrue_22 : decode mi_Is_comesTrue.2.1 22 = .ok (.irem, 1) := by decide +kernel
theorem dk_Is_comesTrue_23 : decode mi_Is_comesTrue.2.1 23 = .ok (.istore_n 2, 1) := by decide +kernel
theorem dk_Is_comesTrue_24 : decode mi_Is_comesTrue.2.1 24 = .ok (.iload_n 1, 1) := by decide +kernel
theorem dk_Is_comesTrue_25 : decode mi_Is_comesTrue.2.1 25 = .ok (.bipush 100, 2) := by decide +kernel
theorem dk_Is_comesTrue_27 : decode mi_Is_comesTrue.2.1 27 = .ok (.idiv, 1) := by decide +kernel
theorem dk_Is_comesTrue_28 : decode mi_Is_comesTrue.2.1 28 = .ok (.istore_n 3, 1) := by decide +kernel
theorem dk_Is_comesTrue_29 : decode mi_Is_comesTrue.2.1 29 = .ok (.iload_n 3, 1) := by decide +kernel
theorem dk_Is_comesTrue_30 : decode mi_Is_comesTrue.2.1 30 = .ok (.iconst 1, 1) := by decide +kernel
theorem dk_Is_comesTrue_31 : decode mi_Is_comesTrue.2.1 31 = .ok (.if_icmp .ne 14, 3) := by decide +kernel
theorem dk_Is_comesTrue_34 : decode mi_Is_comesTrue.2.1 34 = .ok (.aload_n 0, 1) := by decide +kernel
theorem dk_Is_comesTrue_35 : decode mi_Is_comesTrue.2.1 35 = .ok (.iload_n 2, 1) := by decide +kernel
theorem dk_Is_comesTrue_36 : decode mi_Is_comesTrue.2.1 36 = .ok (.aload_n 0, 1) := by decide +kernel
theorem dk_Is_comesTrue_37 : decode mi_Is_comesTrue.2.1 37 = .ok (.iload_n 2, 1) := by decide +kernel
theorem dk_Is_comesTrue_38 : decode mi_Is_comesTrue.2.1 38 = .ok (.invokevirtual 66, 3) := by decide +kernel
theorem dk_Is_comesTrue_41 : decode mi_Is_comesTrue.2.1 41 = .ok (.invokevirtual 128, 3) := by decide +kernel
theorem dk_Is_comesTrue_44 : decode mi_Is_comesTrue.2.1 44 = .ok (.ireturn, 1) := by decide +kernel
theorem dk_Is_comesTrue_45 : decode mi_Is_comesTrue.2.1 45 = .ok (.aload_n 0, 1) := by decide +kernel
theorem dk_Is_comesTrue_46 : decode mi_Is_comesTrue.2.1 46 = .ok (.iload_n 2, 1) := by decide +kernel
theorem dk_Is_comesTrue_47 : decode mi_Is_comesTrue.2.1 47 = .ok (.iload_n 3, 1) := by decide +kernel
theorem dk_Is_comesTrue_48 : decode mi_Is_comesTrue.2.1 48 = .ok (.iconst 2, 1) := by decide +kernel
theorem dk_Is_comesTrue_49 : decode mi_Is_comesTrue.2.1 49 = .ok (.isub, 1) := by decide +kernel
theorem dk_Is_comesTrue_50 : decode mi_Is_comesTrue.2.1 50 = .ok (.invokevirtual 134, 3) := by decide +kernel
theorem dk_Is_comesTrue_53 : decode mi_Is_comesTrue.2.1 53 = .ok (.ireturn, 1) := by decide +kernel
def Is_comesTrue (o : Nat) (p1 : Int32) (σ : nm_St) : Option (Int32 × nm_St) :=
  (if p1 = 0 then
    ((Is_passMonth o σ).bind fun q11 =>
    some ((1 : Int32), q11.2))
  else
    (if (100 : Int32) ≤ p1 then
      (nm_g (!decide ((100 : Int32) = 0)) (
      (nm_let ((p1 - p1 / (100 : Int32) * (100 : Int32))) fun v3 =>
      (nm_g (!decide ((100 : Int32) = 0)) (
      (nm_let ((p1 / (100 : Int32))) fun v4 =>
      (if v4 = (1 : Int32) then
        ((Is_priceOf o v3 σ).bind fun q8 =>
        ((Is_takeBid o v3 q8.1 q8.2).bind fun q9 =>
        (nm_g (nm_bz q9.1) (
        some (q9.1, q9.2)))))
      else
        ((Is_suffer o v3 (v4 - (2 : Int32)) σ).bind fun q6 =>
        (nm_g (nm_bz q6.1) (
        some (q6.1, q6.2)))))))))))
    else
      some ((0 : Int32), σ)))
set_option maxRecDepth 100000 in
set_option maxHeartbeats 4000000 in
theorem ct_Is_comesTrue (X : nm_X) (o : Nat) (ho : nm_isl o = true) (p1 : Int32) (σ : nm_St) : Ct X mi_Is_comesTrue 4 nm_wI [.ref o, .int p1] σ (Is_comesTrue o p1 σ) := by
  refine Ct.of (by decide +kernel) rfl (fun F hF0 => ?_)
  unfold Is_comesTrue
  refine rn_iload_n (pc := 0) 1 dk_Is_comesTrue_0 rfl rfl ?_
  refine rn_if_ne (pc := 1) 11 dk_Is_comesTrue_1 (by decide) (fun c1 => ?_) (fun c1 => ?_)
  · refine rn_iload_n (pc := 11) 1 dk_Is_comesTrue_11 rfl rfl ?_
    refine rn_bipush (pc := 12) (100 : Int32) dk_Is_comesTrue_12 cn_b_100 ?_
    refine rn_icmp_ge (pc := 14) 19 dk_Is_comesTrue_14 (by decide) (fun c2 => ?_) (fun c2 => ?_)
    · refine rn_iload_n (pc := 19) 1 dk_Is_comesTrue_19 rfl rfl ?_
      refine rn_bipush (pc := 20) (100 : Int32) dk_Is_comesTrue_20 cn_b_100 ?_
      refine rn_irem (pc := 22) dk_Is_comesTrue_22 ?_
      refine rn_leti (fun v3 => ?_)
      refine rn_istore_n (pc := 23) 2 dk_Is_comesTrue_23 rfl rfl rfl ?_
      refine rn_iload_n (pc := 24) 1 dk_Is_comesTrue_24 rfl rfl ?_
      refine rn_bipush (pc := 25) (100 : Int32) dk_Is_comesTrue_25 cn_b_100 ?_
      refine rn_idiv (pc := 27) dk_Is_comesTrue_27 ?_
      refine rn_leti (fun v4 => ?_)
      refine rn_istore_n (pc := 28) 3 dk_Is_comesTrue_28 rfl rfl rfl ?_
      refine rn_iload_n (pc := 29) 3 dk_Is_comesTrue_29 rfl rfl ?_
      refine rn_iconst (pc := 30) (1 : Int32) dk_Is_comesTrue_30 cn_i_1 ?_
      refine rn_icmp_ne (pc := 31) 45 dk_Is_comesTrue_31 (by decide) (fun c5 => ?_) (fun c5 => ?_)
      · refine rn_aload_n (pc := 45) 0 dk_Is_comesTrue_45 rfl rfl (nm_rok_isl ho) ?_
        refine rn_iload_n (pc := 46) 2 dk_Is_comesTrue_46 rfl rfl ?_
        refine rn_iload_n (pc := 47) 3 dk_Is_comesTrue_47 rfl rfl ?_
        refine rn_iconst (pc := 48) (2 : Int32) dk_Is_comesTrue_48 cn_i_2 ?_
        refine rn_isub (pc := 49) dk_Is_comesTrue_49 ?_
        refine cl_Is_134 (pc := 50) (As := [.int v3, .int (v4 - (2 : Int32))]) (st := []) o ho rfl (ct_Is_suffer X o ho v3 (v4 - (2 : Int32)) σ) (Nat.le_trans (Nat.le_of_ble_eq_true rfl) hF0) rfl rfl (Nat.le_of_ble_eq_true rfl) dk_Is_comesTrue_50 (fun q6 => ?_)
        refine rn_guard (fun g7 => ?_)
        exact rn_zret (ty := .boolean) rfl (nm_bz_n g7) dk_Is_comesTrue_53
      · refine rn_aload_n (pc := 34) 0 dk_Is_comesTrue_34 rfl rfl (nm_rok_isl ho) ?_
        refine rn_iload_n (pc := 35) 2 dk_Is_comesTrue_35 rfl rfl ?_
        refine rn_aload_n (pc := 36) 0 dk_Is_comesTrue_36 rfl rfl (nm_rok_isl ho) ?_
        refine rn_iload_n (pc := 37) 2 dk_Is_comesTrue_37 rfl rfl ?_
        refine cl_Is_66 (pc := 38) (As := [.int v3]) (st := [.int v3, .ref o]) o ho rfl (ct_Is_priceOf X o ho v3 σ) (Nat.le_trans (Nat.le_of_ble_eq_true rfl) hF0) rfl rfl (Nat.le_of_ble_eq_true rfl) dk_Is_comesTrue_38 (fun q8 => ?_)
        refine cl_Is_128 (pc := 41) (As := [.int v3, .int q8.1]) (st := []) o ho rfl (ct_Is_takeBid X o ho v3 q8.1 q8.2) (Nat.le_trans (Nat.le_of_ble_eq_true rfl) hF0) rfl rfl (Nat.le_of_ble_eq_true rfl) dk_Is_comesTrue_41 (fun q9 => ?_)
        refine rn_guard (fun g10 => ?_)
        exact rn_zret (ty := .boolean) rfl (nm_bz_n g10) dk_Is_comesTrue_44
    · refine rn_iconst (pc := 17) (0 : Int32) dk_Is_comesTrue_17 cn_i_0 ?_
      exact rn_zret (ty := .boolean) rfl rfl dk_Is_comesTrue_18
  · refine rn_aload_n (pc := 4) 0 dk_Is_comesTrue_4 rfl rfl (nm_rok_isl ho) ?_
    refine cl_Is_137 (pc := 5) (As := []) (st := []) o ho rfl (ct_Is_passMonth X o ho σ) (Nat.le_trans (Nat.le_of_ble_eq_true rfl) hF0) rfl rfl (Nat.le_of_ble_eq_true rfl) dk_Is_comesTrue_5 (fun q11 => ?_)
    refine rn_pop (pc := 8) dk_Is_comesTrue_8 rfl ?_
    refine rn_iconst (pc := 9) (1 : Int32) dk_Is_comesTrue_9 cn_i_1 ?_
    exact rn_zret (ty := .boolean) rfl rfl dk_Is_comesTrue_10
theorem dk_Nm_tryMonths_0 : decode mi_Nm_tryMonths.2.1 0 = .ok (.aload_n 0, 1) := by decide +kernel
theorem dk_Nm_tryMonths_1 : decode mi_Nm_tryMonths.2.1 1 = .ok (.getfield 25, 3) := by decide +kernel
theorem dk_Nm_tryMonths_4 : decode mi_Nm_tryMonths.2.1 4 = .ok (.aload_n 0, 1) := by decide +kernel
theorem dk_Nm_tryMonths_5 : decode mi_Nm_tryMonths.2.1 5 = .ok (.getfield 18, 3) := by decide +kernel
theorem dk_Nm_tryMonths_8 : decode mi_Nm_tryMonths.2.1 8 = .ok (.invokevirtual 183, 3) := by decide +kernel
theorem dk_Nm_tryMonths_11 : decode mi_Nm_tryMonths.2.1 11 = .ok (.iconst 0, 1) := by decide +kernel
theorem dk_Nm_tryMonths_12 : decode mi_Nm_tryMonths.2.1 12 = .ok (.istore_n 3, 1) := by decide +kernel
theorem dk_Nm_tryMonths_13 : decode mi_Nm_tryMonths.2.1 13 = .ok (.iload_n 3, 1) := by decide +kernel
theorem dk_Nm_tryMonths_14 : decode mi_Nm_tryMonths.2.1 14 = .ok (.iload_n 2, 1) := by decide +kernel
theorem dk_Nm_tryMonths_15 : decode mi_Nm_tryMonths.2.1 15 = .ok (.if_icmp .ge 26, 3) := by decide +kernel
theorem dk_Nm_tryMonths_18 : decode mi_Nm_tryMonths.2.1 18 = .ok (.aload_n 0, 1) := by decide +kernel
theorem dk_Nm_tryMonths_19 : decode mi_Nm_tryMonths.2.1 19 = .ok (.getfield 25, 3) := by decide +kernel
theorem dk_Nm_tryMonths_22 : decode mi_Nm_tryMonths.2.1 22 = .ok (.aload_n 1, 1) := by decide +kernel
theorem dk_Nm_tryMonths_23 : decode mi_Nm_tryMonths.2.1 23 = .ok (.iload_n 3, 1) := by decide +kernel
theorem dk_Nm_tryMonths_24 : decode mi_Nm_tryMonths.2.1 24 = .ok (.invokevirtual 357, 3) := by decide +kernel
theorem dk_Nm_tryMonths_27 : decode mi_Nm_tryMonths.2.1 27 = .ok (.invokevirtual 369, 3) := by decide +kernel
theorem dk_Nm_tryMonths_30 : decode mi_Nm_tryMonths.2.1 30 = .ok (.ifCond .ne 5, 3) := by decide +kernel
theorem dk_Nm_tryMonths_33 : decode mi_Nm_tryMonths.2.1 33 = .ok (.iload_n 3, 1) := by decide +kernel
theorem dk_Nm_tryMonths_34 : decode mi_Nm_tryMonths.2.1 34 = .ok (.ireturn, 1) := by decide +kernel
theorem dk_Nm_tryMonths_35 : decode mi_Nm_tryMonths.2.1 35 = .ok (.iinc 3 1, 3) := by decide +kernel
theorem dk_Nm_tryMonths_38 : decode mi_Nm_tryMonths.2.1 38 = .ok (.goto (-25), 3) := by decide +kernel
theorem dk_Nm_tryMonths_41 : decode mi_Nm_tryMonths.2.1 41 = .ok (.iconst (-1), 1) := by decide +kernel
theorem dk_Nm_tryMonths_42 : decode mi_Nm_tryMonths.2.1 42 = .ok (.ireturn, 1) := by decide +kernel
def Nm_tryMonths_l13 (o1 : Nat) (k_41 : nm_St → Option (Int32 × nm_St)) : Nat → Int32 → Int32 → nm_St → Option (Int32 × nm_St)
  | 0, _, _, _ => none
  | n + 1, x2, x3, σ =>
    (if x2 ≤ x3 then
      k_41 σ
    else
      ((Sh_number o1 x3 σ).bind fun q3 =>
      ((Is_comesTrue 16 q3.1 q3.2).bind fun q4 =>
      (if q4.1 = 0 then
        some (x3, q4.2)
      else
        (Nm_tryMonths_l13 o1 k_41 n) x2 (x3 + (1 : Int32)) q4.2))))
set_option maxRecDepth 100000 in
set_option maxHeartbeats 4000000 in
theorem r_Nm_tryMonths_l13 (X : nm_X) (F : nm_F) (hF0 : 5 ≤ nm_d F) (o1 : Nat) (ho1 : nm_isH o1 = true) (k_41 : nm_St → Option (Int32 × nm_St)) (hk_41 : ∀ (σ : nm_St), Rn X mi_Nm_tryMonths F (nm_Qf X F nm_wI) [] [] 41 σ (k_41 σ)) : ∀ (n : Nat) (x2 : Int32) (x3 : Int32) (σ : nm_St), Rn X mi_Nm_tryMonths F (nm_Qf X F nm_wI) [(0, .ref 0), (1, .ref o1), (2, .int x2), (3, .int x3)] [] 13 σ (Nm_tryMonths_l13 o1 k_41 n x2 x3 σ) := by
  intro n
  induction n with
  | zero =>
    intro x2 x3 σ
    exact rn_none
  | succ n ih =>
    intro x2 x3 σ
    unfold Nm_tryMonths_l13
    refine rn_iload_n (pc := 13) 3 dk_Nm_tryMonths_13 rfl rfl ?_
    refine rn_iload_n (pc := 14) 2 dk_Nm_tryMonths_14 rfl rfl ?_
    refine rn_icmp_ge (pc := 15) 41 dk_Nm_tryMonths_15 (by decide) (fun c2 => ?_) (fun c2 => ?_)
    · exact rn_sub (by rfl) (hk_41 σ)
    · refine rn_aload_n (pc := 18) 0 dk_Nm_tryMonths_18 rfl rfl rfl ?_
      refine gf_Nm_25 (pc := 19) rfl dk_Nm_tryMonths_19 ?_
      refine rn_aload_n (pc := 22) 1 dk_Nm_tryMonths_22 rfl rfl (nm_rok_isH ho1) ?_
      refine rn_iload_n (pc := 23) 3 dk_Nm_tryMonths_23 rfl rfl ?_
      refine cl_Nm_357 (pc := 24) (As := [.int x3]) (st := [.ref 16]) o1 ho1 rfl (ct_Sh_number X o1 ho1 x3 σ) (Nat.le_trans (Nat.le_of_ble_eq_true rfl) hF0) rfl rfl (Nat.le_of_ble_eq_true rfl) dk_Nm_tryMonths_24 (fun q3 => ?_)
      refine cl_Nm_369 (pc := 27) (As := [.int q3.1]) (st := []) 16 rfl rfl (ct_Is_comesTrue X 16 rfl q3.1 q3.2) (Nat.le_trans (Nat.le_of_ble_eq_true rfl) hF0) rfl rfl (Nat.le_of_ble_eq_true rfl) dk_Nm_tryMonths_27 (fun q4 => ?_)
      refine rn_if_ne (pc := 30) 35 dk_Nm_tryMonths_30 (by decide) (fun c5 => ?_) (fun c5 => ?_)
      · refine rn_iinc (pc := 35) (1 : Int32) dk_Nm_tryMonths_35 cn_i_1 rfl rfl rfl ?_
        refine rn_goto (pc := 38) 13 dk_Nm_tryMonths_38 (by decide) ?_
        exact rn_sub (by rfl) (ih x2 (x3 + (1 : Int32)) q4.2)
      · refine rn_iload_n (pc := 33) 3 dk_Nm_tryMonths_33 rfl rfl ?_
        exact rn_iret rfl dk_Nm_tryMonths_34
def Nm_tryMonths (o1 : Nat) (p2 : Int32) (σ : nm_St) : Option (Int32 × nm_St) :=
  ((Is_become 16 2 σ).bind fun q1 =>
  Nm_tryMonths_l13 o1 (fun (s6 : nm_St) =>
    some ((-1 : Int32), s6)) 400 p2 (0 : Int32) q1.2)
set_option maxRecDepth 100000 in
set_option maxHeartbeats 4000000 in
theorem ct_Nm_tryMonths (X : nm_X) (o1 : Nat) (ho1 : nm_isH o1 = true) (p2 : Int32) (σ : nm_St) : Ct X mi_Nm_tryMonths 5 nm_wI [.ref 0, .ref o1, .int p2] σ (Nm_tryMonths o1 p2 σ) := by
  refine Ct.of (by decide +kernel) rfl (fun F hF0 => ?_)
  unfold Nm_tryMonths
  refine rn_aload_n (pc := 0) 0 dk_Nm_tryMonths_0 rfl rfl rfl ?_
  refine gf_Nm_25 (pc := 1) rfl dk_Nm_tryMonths_1 ?_
  refine rn_aload_n (pc := 4) 0 dk_Nm_tryMonths_4 rfl rfl rfl ?_
  refine gf_Nm_18 (pc := 5) rfl dk_Nm_tryMonths_5 ?_
  refine cl_Nm_183 (pc := 8) (As := [.ref 2]) (st := []) 16 rfl rfl (ct_Is_become X 16 rfl 2 rfl σ) (Nat.le_trans (Nat.le_of_ble_eq_true rfl) hF0) rfl rfl (Nat.le_of_ble_eq_true rfl) dk_Nm_tryMonths_8 (fun q1 => ?_)
  refine rn_iconst (pc := 11) (0 : Int32) dk_Nm_tryMonths_11 cn_i_0 ?_
  refine rn_istore_n (pc := 12) 3 dk_Nm_tryMonths_12 rfl rfl rfl ?_
  refine rn_sub (by rfl) (r_Nm_tryMonths_l13 X F hF0 o1 ho1 _ (fun s6 => ?_) 400 p2 (0 : Int32) q1.2)
  refine rn_iconst (pc := 41) (-1 : Int32) dk_Nm_tryMonths_41 cn_i_m1 ?_
  exact rn_iret rfl dk_Nm_tryMonths_42
theorem dk_Nm_judge_0 : decode mi_Nm_judge.2.1 0 = .ok (.aload_n 0, 1) := by decide +kernel
theorem dk_Nm_judge_1 : decode mi_Nm_judge.2.1 1 = .ok (.iload_n 1, 1) := by decide +kernel
theorem dk_Nm_judge_2 : decode mi_Nm_judge.2.1 2 = .ok (.iload_n 2, 1) := by decide +kernel
theorem dk_Nm_judge_3 : decode mi_Nm_judge.2.1 3 = .ok (.invokevirtual 292, 3) := by decide +kernel
theorem dk_Nm_judge_6 : decode mi_Nm_judge.2.1 6 = .ok (.istore_n 3, 1) := by decide +kernel
theorem dk_Nm_judge_7 : decode mi_Nm_judge.2.1 7 = .ok (.iload_n 3, 1) := by decide +kernel
theorem dk_Nm_judge_8 : decode mi_Nm_judge.2.1 8 = .ok (.ifCond .eq 9, 3) := by decide +kernel
theorem dk_Nm_judge_11 : decode mi_Nm_judge.2.1 11 = .ok (.aload_n 0, 1) := by decide +kernel
theorem dk_Nm_judge_12 : decode mi_Nm_judge.2.1 12 = .ok (.iload_n 3, 1) := by decide +kernel
theorem dk_Nm_judge_13 : decode mi_Nm_judge.2.1 13 = .ok (.invokevirtual 209, 3) := by decide +kernel
theorem dk_Nm_judge_16 : decode mi_Nm_judge.2.1 16 = .ok (.ireturn, 1) := by decide +kernel
theorem dk_Nm_judge_17 : decode mi_Nm_judge.2.1 17 = .ok (.aload_n 0, 1) := by decide +kernel
theorem dk_Nm_judge_18 : decode mi_Nm_judge.2.1 18 = .ok (.aload_n 0, 1) := by decide +kernel
theorem dk_Nm_judge_19 : decode mi_Nm_judge.2.1 19 = .ok (.getfield 11, 3) := by decide +kernel
theorem dk_Nm_judge_22 : decode mi_Nm_judge.2.1 22 = .ok (.iload_n 1, 1) := by decide +kernel
theorem dk_Nm_judge_23 : decode mi_Nm_judge.2.1 23 = .ok (.aaload, 1) := by decide +kernel
theorem dk_Nm_judge_24 : decode mi_Nm_judge.2.1 24 = .ok (.iload_n 2, 1) := by decide +kernel
theorem dk_Nm_judge_25 : decode mi_Nm_judge.2.1 25 = .ok (.invokevirtual 295, 3) := by decide +kernel
theorem dk_Nm_judge_28 : decode mi_Nm_judge.2.1 28 = .ok (.ireturn, 1) := by decide +kernel
def Nm_judge (p1 : Int32) (p2 : Int32) (σ : nm_St) : Option (Int32 × nm_St) :=
  ((Nm_checkTold p1 p2 σ).bind fun q1 =>
  (if q1.1 = 0 then
    (nm_g (nm_in p1 8) (
    ((Nm_tryMonths (nm_sf p1) p2 q1.2).bind fun q4 =>
    some (q4.1, q4.2))))
  else
    ((Nm_refuseFar q1.1 q1.2).bind fun q5 =>
    some (q5.1, q5.2))))
set_option maxRecDepth 100000 in
set_option maxHeartbeats 4000000 in
theorem ct_Nm_judge (X : nm_X) (p1 : Int32) (p2 : Int32) (σ : nm_St) : Ct X mi_Nm_judge 6 nm_wI [.ref 0, .int p1, .int p2] σ (Nm_judge p1 p2 σ) := by
  refine Ct.of (by decide +kernel) rfl (fun F hF0 => ?_)
  unfold Nm_judge
  refine rn_aload_n (pc := 0) 0 dk_Nm_judge_0 rfl rfl rfl ?_
  refine rn_iload_n (pc := 1) 1 dk_Nm_judge_1 rfl rfl ?_
  refine rn_iload_n (pc := 2) 2 dk_Nm_judge_2 rfl rfl ?_
  refine cl_Nm_292 (pc := 3) (As := [.int p1, .int p2]) (st := []) rfl (ct_Nm_checkTold X p1 p2 σ) (Nat.le_trans (Nat.le_of_ble_eq_true rfl) hF0) rfl rfl (Nat.le_of_ble_eq_true rfl) dk_Nm_judge_3 (fun q1 => ?_)
  refine rn_istore_n (pc := 6) 3 dk_Nm_judge_6 rfl rfl rfl ?_
  refine rn_iload_n (pc := 7) 3 dk_Nm_judge_7 rfl rfl ?_
  refine rn_if_eq (pc := 8) 17 dk_Nm_judge_8 (by decide) (fun c2 => ?_) (fun c2 => ?_)
  · refine rn_aload_n (pc := 17) 0 dk_Nm_judge_17 rfl rfl rfl ?_
    refine rn_aload_n (pc := 18) 0 dk_Nm_judge_18 rfl rfl rfl ?_
    refine gf_Nm_11 (pc := 19) rfl dk_Nm_judge_19 ?_
    refine rn_iload_n (pc := 22) 1 dk_Nm_judge_22 rfl rfl ?_
    refine rn_aaload (pc := 23) dk_Nm_judge_23 (fun g3 => ?_)
    refine rn_iload_n (pc := 24) 2 dk_Nm_judge_24 rfl rfl ?_
    refine cl_Nm_295 (pc := 25) (As := [.ref (nm_sf p1), .int p2]) (st := []) rfl (ct_Nm_tryMonths X (nm_sf p1) (nm_sf_isH g3) p2 q1.2) (Nat.le_trans (Nat.le_of_ble_eq_true rfl) hF0) rfl rfl (Nat.le_of_ble_eq_true rfl) dk_Nm_judge_25 (fun q4 => ?_)
    exact rn_iret rfl dk_Nm_judge_28
  · refine rn_aload_n (pc := 11) 0 dk_Nm_judge_11 rfl rfl rfl ?_
    refine rn_iload_n (pc := 12) 3 dk_Nm_judge_12 rfl rfl ?_
    refine cl_Nm_209 (pc := 13) (As := [.int q1.1]) (st := []) rfl (ct_Nm_refuseFar X q1.1 q1.2) (Nat.le_trans (Nat.le_of_ble_eq_true rfl) hF0) rfl rfl (Nat.le_of_ble_eq_true rfl) dk_Nm_judge_13 (fun q5 => ?_)
    exact rn_iret rfl dk_Nm_judge_16
