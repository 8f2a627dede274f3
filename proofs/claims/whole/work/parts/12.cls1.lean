theorem dk_Is_learn_0 : decode mi_Is_learn.2.1 0 = .ok (.aload_n 0, 1) := by decide +kernel
theorem dk_Is_learn_1 : decode mi_Is_learn.2.1 1 = .ok (.iload_n 1, 1) := by decide +kernel
theorem dk_Is_learn_2 : decode mi_Is_learn.2.1 2 = .ok (.invokevirtual 59, 3) := by decide +kernel
theorem dk_Is_learn_5 : decode mi_Is_learn.2.1 5 = .ok (.ifCond .eq 11, 3) := by decide +kernel
theorem dk_Is_learn_8 : decode mi_Is_learn.2.1 8 = .ok (.aload_n 0, 1) := by decide +kernel
theorem dk_Is_learn_9 : decode mi_Is_learn.2.1 9 = .ok (.iload_n 2, 1) := by decide +kernel
theorem dk_Is_learn_10 : decode mi_Is_learn.2.1 10 = .ok (.invokevirtual 63, 3) := by decide +kernel
theorem dk_Is_learn_13 : decode mi_Is_learn.2.1 13 = .ok (.ifCond .ne 5, 3) := by decide +kernel
theorem dk_Is_learn_16 : decode mi_Is_learn.2.1 16 = .ok (.iconst 0, 1) := by decide +kernel
theorem dk_Is_learn_17 : decode mi_Is_learn.2.1 17 = .ok (.ireturn, 1) := by decide +kernel
theorem dk_Is_learn_18 : decode mi_Is_learn.2.1 18 = .ok (.iconst 1, 1) := by decide +kernel
theorem dk_Is_learn_19 : decode mi_Is_learn.2.1 19 = .ok (.iload_n 2, 1) := by decide +kernel
theorem dk_Is_learn_20 : decode mi_Is_learn.2.1 20 = .ok (.ishl, 1) := by decide +kernel
theorem dk_Is_learn_21 : decode mi_Is_learn.2.1 21 = .ok (.istore 4, 2) := by decide +kernel
theorem dk_Is_learn_23 : decode mi_Is_learn.2.1 23 = .ok (.aload_n 0, 1) := by decide +kernel
theorem dk_Is_learn_24 : decode mi_Is_learn.2.1 24 = .ok (.getfield 21, 3) := by decide +kernel
theorem dk_Is_learn_27 : decode mi_Is_learn.2.1 27 = .ok (.iload_n 1, 1) := by decide +kernel
theorem dk_Is_learn_28 : decode mi_Is_learn.2.1 28 = .ok (.iaload, 1) := by decide +kernel
theorem dk_Is_learn_29 : decode mi_Is_learn.2.1 29 = .ok (.iload 4, 2) := by decide +kernel
theorem dk_Is_learn_31 : decode mi_Is_learn.2.1 31 = .ok (.iand, 1) := by decide +kernel
theorem dk_Is_learn_32 : decode mi_Is_learn.2.1 32 = .ok (.ifCond .eq 7, 3) := by decide +kernel
theorem dk_Is_learn_35 : decode mi_Is_learn.2.1 35 = .ok (.iconst 1, 1) := by decide +kernel
theorem dk_Is_learn_36 : decode mi_Is_learn.2.1 36 = .ok (.goto 4, 3) := by decide +kernel
theorem dk_Is_learn_39 : decode mi_Is_learn.2.1 39 = .ok (.iconst 0, 1) := by decide +kernel
theorem dk_Is_learn_40 : decode mi_Is_learn.2.1 40 = .ok (.istore 5, 2) := by decide +kernel
theorem dk_Is_learn_42 : decode mi_Is_learn.2.1 42 = .ok (.aload_n 0, 1) := by decide +kernel
theorem dk_Is_learn_43 : decode mi_Is_learn.2.1 43 = .ok (.getfield 21, 3) := by decide +kernel
theorem dk_Is_learn_46 : decode mi_Is_learn.2.1 46 = .ok (.iload_n 1, 1) := by decide +kernel
theorem dk_Is_learn_47 : decode mi_Is_learn.2.1 47 = .ok (.iload_n 3, 1) := by decide +kernel
theorem dk_Is_learn_48 : decode mi_Is_learn.2.1 48 = .ok (.ifCond .eq 15, 3) := by decide +kernel
theorem dk_Is_learn_51 : decode mi_Is_learn.2.1 51 = .ok (.aload_n 0, 1) := by decide +kernel
theorem dk_Is_learn_52 : decode mi_Is_learn.2.1 52 = .ok (.getfield 21, 3) := by decide +kernel
theorem dk_Is_learn_55 : decode mi_Is_learn.2.1 55 = .ok (.iload_n 1, 1) := by decide +kernel
theorem dk_Is_learn_56 : decode mi_Is_learn.2.1 56 = .ok (.iaload, 1) := by decide +kernel
theorem dk_Is_learn_57 : decode mi_Is_learn.2.1 57 = .ok (.iload 4, 2) := by decide +kernel
theorem dk_Is_learn_59 : decode mi_Is_learn.2.1 59 = .ok (.ior, 1) := by decide +kernel
theorem dk_Is_learn_60 : decode mi_Is_learn.2.1 60 = .ok (.goto 14, 3) := by decide +kernel
theorem dk_Is_learn_63 : decode mi_Is_learn.2.1 63 = .ok (.aload_n 0, 1) := by decide +kernel
theorem dk_Is_learn_64 : decode mi_Is_learn.2.1 64 = .ok (.getfield 21, 3) := by decide +kernel
theorem dk_Is_learn_67 : decode mi_Is_learn.2.1 67 = .ok (.iload_n 1, 1) := by decide +kernel
theorem dk_Is_learn_68 : decode mi_Is_learn.2.1 68 = .ok (.iaload, 1) := by decide +kernel
theorem dk_Is_learn_69 : decode mi_Is_learn.2.1 69 = .ok (.iload 4, 2) := by decide +kernel
theorem dk_Is_learn_71 : decode mi_Is_learn.2.1 71 = .ok (.iconst (-1), 1) := by decide +kernel
theorem dk_Is_learn_72 : decode mi_Is_learn.2.1 72 = .ok (.ixor, 1) := by decide +kernel
theorem dk_Is_learn_73 : decode mi_Is_learn.2.1 73 = .ok (.iand, 1) := by decide +kernel
theorem dk_Is_learn_74 : decode mi_Is_learn.2.1 74 = .ok (.iastore, 1) := by decide +kernel
theorem dk_Is_learn_75 : decode mi_Is_learn.2.1 75 = .ok (.iload 5, 2) := by decide +kernel
theorem dk_Is_learn_77 : decode mi_Is_learn.2.1 77 = .ok (.ireturn, 1) := by decide +kernel
def Is_learn_j40 (o : Nat) (x1 : Int32) (x3 : Int32) (x4 : Int32) (y0 : Int32) (σ : nm_St) : Option (Int32 × nm_St) :=
  (if x3 = 0 then
    (nm_g (nm_in x1 8) (
    (nm_g (nm_in x1 8) (
    (nm_let (nm_pI σ (o + 4) x1.toNatClampNeg ((σ.1 (o + 4) x1.toNatClampNeg) &&& (x4 ^^^ (-1 : Int32)))) fun s11 =>
    (nm_g (nm_bz y0) (
    some (y0, s11))))))))
  else
    (nm_g (nm_in x1 8) (
    (nm_g (nm_in x1 8) (
    (nm_let (nm_pI σ (o + 4) x1.toNatClampNeg ((σ.1 (o + 4) x1.toNatClampNeg) ||| x4)) fun s15 =>
    (nm_g (nm_bz y0) (
    some (y0, s15)))))))))
set_option maxRecDepth 100000 in
set_option maxHeartbeats 4000000 in
theorem r_Is_learn_j40 (X : nm_X) (F : nm_F) (hF0 : 1 ≤ nm_d F) (o : Nat) (ho : nm_isl o = true) (x1 : Int32) (x3 : Int32) (x4 : Int32) (y0 : Int32) (σ : nm_St) : Rn X mi_Is_learn F (nm_Qf X F nm_wI) [(0, .ref o), (1, .int x1), (3, .int x3), (4, .int x4)] [.int y0] 40 σ (Is_learn_j40 o x1 x3 x4 y0 σ) := by
  unfold Is_learn_j40
  refine rn_istore (pc := 40) dk_Is_learn_40 rfl rfl ?_
  refine rn_aload_n (pc := 42) 0 dk_Is_learn_42 rfl rfl (nm_rok_isl ho) ?_
  refine gf_Is_21 (pc := 43) o ho rfl dk_Is_learn_43 ?_
  refine rn_iload_n (pc := 46) 1 dk_Is_learn_46 rfl rfl ?_
  refine rn_iload_n (pc := 47) 3 dk_Is_learn_47 rfl rfl ?_
  refine rn_if_eq (pc := 48) 63 dk_Is_learn_48 (by decide) (fun c8 => ?_) (fun c8 => ?_)
  · refine rn_aload_n (pc := 63) 0 dk_Is_learn_63 rfl rfl (nm_rok_isl ho) ?_
    refine gf_Is_21 (pc := 64) o ho rfl dk_Is_learn_64 ?_
    refine rn_iload_n (pc := 67) 1 dk_Is_learn_67 rfl rfl ?_
    refine rn_iaload (pc := 68) (nm_i4 ho) dk_Is_learn_68 (fun g9 => ?_)
    refine rn_iload (pc := 69) dk_Is_learn_69 rfl ?_
    refine rn_iconst (pc := 71) (-1 : Int32) dk_Is_learn_71 cn_i_m1 ?_
    refine rn_ixor (pc := 72) dk_Is_learn_72 ?_
    refine rn_iand (pc := 73) dk_Is_learn_73 ?_
    refine rn_iastore (pc := 74) (nm_i4 ho) dk_Is_learn_74 (fun g10 => ?_)
    refine rn_lets (fun s11 => ?_)
    refine rn_iload (pc := 75) dk_Is_learn_75 rfl ?_
    refine rn_guard (fun g12 => ?_)
    exact rn_zret (ty := .boolean) rfl (nm_bz_n g12) dk_Is_learn_77
  · refine rn_aload_n (pc := 51) 0 dk_Is_learn_51 rfl rfl (nm_rok_isl ho) ?_
    refine gf_Is_21 (pc := 52) o ho rfl dk_Is_learn_52 ?_
    refine rn_iload_n (pc := 55) 1 dk_Is_learn_55 rfl rfl ?_
    refine rn_iaload (pc := 56) (nm_i4 ho) dk_Is_learn_56 (fun g13 => ?_)
    refine rn_iload (pc := 57) dk_Is_learn_57 rfl ?_
    refine rn_ior (pc := 59) dk_Is_learn_59 ?_
    refine rn_goto (pc := 60) 74 dk_Is_learn_60 (by decide) ?_
    refine rn_iastore (pc := 74) (nm_i4 ho) dk_Is_learn_74 (fun g14 => ?_)
    refine rn_lets (fun s15 => ?_)
    refine rn_iload (pc := 75) dk_Is_learn_75 rfl ?_
    refine rn_guard (fun g16 => ?_)
    exact rn_zret (ty := .boolean) rfl (nm_bz_n g16) dk_Is_learn_77
def Is_learn (o : Nat) (p1 : Int32) (p2 : Int32) (p3 : Int32) (σ : nm_St) : Option (Int32 × nm_St) :=
  ((Is_isMaker o p1 σ).bind fun q1 =>
  (if q1.1 = 0 then
    some ((0 : Int32), q1.2)
  else
    ((Is_isPart o p2 q1.2).bind fun q3 =>
    (if q3.1 = 0 then
      some ((0 : Int32), q3.2)
    else
      (nm_let (((1 : Int32) <<< (p2 &&& 31))) fun v5 =>
      (nm_g (nm_in p1 8) (
      (if ((q3.2.1 (o + 4) p1.toNatClampNeg) &&& v5) = 0 then
        Is_learn_j40 o p1 p3 v5 (0 : Int32) q3.2
      else
        Is_learn_j40 o p1 p3 v5 (1 : Int32) q3.2))))))))
set_option maxRecDepth 100000 in
set_option maxHeartbeats 4000000 in
theorem ct_Is_learn (X : nm_X) (o : Nat) (ho : nm_isl o = true) (p1 : Int32) (p2 : Int32) (p3 : Int32) (σ : nm_St) : Ct X mi_Is_learn 1 nm_wI [.ref o, .int p1, .int p2, .int p3] σ (Is_learn o p1 p2 p3 σ) := by
  refine Ct.of (by decide +kernel) rfl (fun F hF0 => ?_)
  unfold Is_learn
  refine rn_aload_n (pc := 0) 0 dk_Is_learn_0 rfl rfl (nm_rok_isl ho) ?_
  refine rn_iload_n (pc := 1) 1 dk_Is_learn_1 rfl rfl ?_
  refine cl_Is_59 (pc := 2) (As := [.int p1]) (st := []) o ho rfl (ct_Is_isMaker X o ho p1 σ) (Nat.le_trans (Nat.le_of_ble_eq_true rfl) hF0) rfl rfl (Nat.le_of_ble_eq_true rfl) dk_Is_learn_2 (fun q1 => ?_)
  refine rn_if_eq (pc := 5) 16 dk_Is_learn_5 (by decide) (fun c2 => ?_) (fun c2 => ?_)
  · refine rn_iconst (pc := 16) (0 : Int32) dk_Is_learn_16 cn_i_0 ?_
    exact rn_zret (ty := .boolean) rfl rfl dk_Is_learn_17
  · refine rn_aload_n (pc := 8) 0 dk_Is_learn_8 rfl rfl (nm_rok_isl ho) ?_
    refine rn_iload_n (pc := 9) 2 dk_Is_learn_9 rfl rfl ?_
    refine cl_Is_63 (pc := 10) (As := [.int p2]) (st := []) o ho rfl (ct_Is_isPart X o ho p2 q1.2) (Nat.le_trans (Nat.le_of_ble_eq_true rfl) hF0) rfl rfl (Nat.le_of_ble_eq_true rfl) dk_Is_learn_10 (fun q3 => ?_)
    refine rn_if_ne (pc := 13) 18 dk_Is_learn_13 (by decide) (fun c4 => ?_) (fun c4 => ?_)
    · refine rn_iconst (pc := 18) (1 : Int32) dk_Is_learn_18 cn_i_1 ?_
      refine rn_iload_n (pc := 19) 2 dk_Is_learn_19 rfl rfl ?_
      refine rn_ishl (pc := 20) dk_Is_learn_20 ?_
      refine rn_leti (fun v5 => ?_)
      refine rn_istore (pc := 21) dk_Is_learn_21 rfl rfl ?_
      refine rn_aload_n (pc := 23) 0 dk_Is_learn_23 rfl rfl (nm_rok_isl ho) ?_
      refine gf_Is_21 (pc := 24) o ho rfl dk_Is_learn_24 ?_
      refine rn_iload_n (pc := 27) 1 dk_Is_learn_27 rfl rfl ?_
      refine rn_iaload (pc := 28) (nm_i4 ho) dk_Is_learn_28 (fun g6 => ?_)
      refine rn_iload (pc := 29) dk_Is_learn_29 rfl ?_
      refine rn_iand (pc := 31) dk_Is_learn_31 ?_
      refine rn_if_eq (pc := 32) 39 dk_Is_learn_32 (by decide) (fun c7 => ?_) (fun c7 => ?_)
      · refine rn_iconst (pc := 39) (0 : Int32) dk_Is_learn_39 cn_i_0 ?_
        exact rn_sub (by rfl) (r_Is_learn_j40 X F hF0 o ho p1 p3 v5 (0 : Int32) q3.2)
      · refine rn_iconst (pc := 35) (1 : Int32) dk_Is_learn_35 cn_i_1 ?_
        refine rn_goto (pc := 36) 40 dk_Is_learn_36 (by decide) ?_
        exact rn_sub (by rfl) (r_Is_learn_j40 X F hF0 o ho p1 p3 v5 (1 : Int32) q3.2)
    · refine rn_iconst (pc := 16) (0 : Int32) dk_Is_learn_16 cn_i_0 ?_
      exact rn_zret (ty := .boolean) rfl rfl dk_Is_learn_17
theorem dk_Nm_knows_0 : decode mi_Nm_knows.2.1 0 = .ok (.aload_n 0, 1) := by decide +kernel
theorem dk_Nm_knows_1 : decode mi_Nm_knows.2.1 1 = .ok (.getfield 18, 3) := by decide +kernel
theorem dk_Nm_knows_4 : decode mi_Nm_knows.2.1 4 = .ok (.iload_n 1, 1) := by decide +kernel
theorem dk_Nm_knows_5 : decode mi_Nm_knows.2.1 5 = .ok (.invokevirtual 107, 3) := by decide +kernel
theorem dk_Nm_knows_8 : decode mi_Nm_knows.2.1 8 = .ok (.ifCond .ne 9, 3) := by decide +kernel
theorem dk_Nm_knows_11 : decode mi_Nm_knows.2.1 11 = .ok (.aload_n 0, 1) := by decide +kernel
theorem dk_Nm_knows_12 : decode mi_Nm_knows.2.1 12 = .ok (.iconst (-1), 1) := by decide +kernel
theorem dk_Nm_knows_13 : decode mi_Nm_knows.2.1 13 = .ok (.invokevirtual 73, 3) := by decide +kernel
theorem dk_Nm_knows_16 : decode mi_Nm_knows.2.1 16 = .ok (.ireturn, 1) := by decide +kernel
theorem dk_Nm_knows_17 : decode mi_Nm_knows.2.1 17 = .ok (.aload_n 0, 1) := by decide +kernel
theorem dk_Nm_knows_18 : decode mi_Nm_knows.2.1 18 = .ok (.getfield 18, 3) := by decide +kernel
theorem dk_Nm_knows_21 : decode mi_Nm_knows.2.1 21 = .ok (.iload_n 2, 1) := by decide +kernel
theorem dk_Nm_knows_22 : decode mi_Nm_knows.2.1 22 = .ok (.invokevirtual 158, 3) := by decide +kernel
theorem dk_Nm_knows_25 : decode mi_Nm_knows.2.1 25 = .ok (.ifCond .ne 10, 3) := by decide +kernel
theorem dk_Nm_knows_28 : decode mi_Nm_knows.2.1 28 = .ok (.aload_n 0, 1) := by decide +kernel
theorem dk_Nm_knows_29 : decode mi_Nm_knows.2.1 29 = .ok (.bipush (-6), 2) := by decide +kernel
theorem dk_Nm_knows_31 : decode mi_Nm_knows.2.1 31 = .ok (.invokevirtual 73, 3) := by decide +kernel
theorem dk_Nm_knows_34 : decode mi_Nm_knows.2.1 34 = .ok (.ireturn, 1) := by decide +kernel
theorem dk_Nm_knows_35 : decode mi_Nm_knows.2.1 35 = .ok (.aload_n 0, 1) := by decide +kernel
theorem dk_Nm_knows_36 : decode mi_Nm_knows.2.1 36 = .ok (.getfield 18, 3) := by decide +kernel
theorem dk_Nm_knows_39 : decode mi_Nm_knows.2.1 39 = .ok (.iload_n 1, 1) := by decide +kernel
theorem dk_Nm_knows_40 : decode mi_Nm_knows.2.1 40 = .ok (.iload_n 2, 1) := by decide +kernel
theorem dk_Nm_knows_41 : decode mi_Nm_knows.2.1 41 = .ok (.iload_n 3, 1) := by decide +kernel
theorem dk_Nm_knows_42 : decode mi_Nm_knows.2.1 42 = .ok (.invokevirtual 161, 3) := by decide +kernel
theorem dk_Nm_knows_45 : decode mi_Nm_knows.2.1 45 = .ok (.ifCond .eq 7, 3) := by decide +kernel
theorem dk_Nm_knows_48 : decode mi_Nm_knows.2.1 48 = .ok (.iconst 1, 1) := by decide +kernel
theorem dk_Nm_knows_49 : decode mi_Nm_knows.2.1 49 = .ok (.goto 4, 3) := by decide +kernel
theorem dk_Nm_knows_52 : decode mi_Nm_knows.2.1 52 = .ok (.iconst 0, 1) := by decide +kernel
theorem dk_Nm_knows_53 : decode mi_Nm_knows.2.1 53 = .ok (.ireturn, 1) := by decide +kernel
def Nm_knows (p1 : Int32) (p2 : Int32) (p3 : Int32) (σ : nm_St) : Option (Int32 × nm_St) :=
  ((Is_isMaker 2 p1 σ).bind fun q1 =>
  (if q1.1 = 0 then
    ((Nm_refuse (-1 : Int32) q1.2).bind fun q8 =>
    some (q8.1, q8.2))
  else
    ((Is_isPart 2 p2 q1.2).bind fun q3 =>
    (if q3.1 = 0 then
      ((Nm_refuse (-6 : Int32) q3.2).bind fun q7 =>
      some (q7.1, q7.2))
    else
      ((Is_learn 2 p1 p2 p3 q3.2).bind fun q5 =>
      (if q5.1 = 0 then
        some ((0 : Int32), q5.2)
      else
        some ((1 : Int32), q5.2)))))))
set_option maxRecDepth 100000 in
set_option maxHeartbeats 4000000 in
theorem ct_Nm_knows (X : nm_X) (p1 : Int32) (p2 : Int32) (p3 : Int32) (σ : nm_St) : Ct X mi_Nm_knows 2 nm_wI [.ref 0, .int p1, .int p2, .int p3] σ (Nm_knows p1 p2 p3 σ) := by
  refine Ct.of (by decide +kernel) rfl (fun F hF0 => ?_)
  unfold Nm_knows
  refine rn_aload_n (pc := 0) 0 dk_Nm_knows_0 rfl rfl rfl ?_
  refine gf_Nm_18 (pc := 1) rfl dk_Nm_knows_1 ?_
  refine rn_iload_n (pc := 4) 1 dk_Nm_knows_4 rfl rfl ?_
  refine cl_Nm_107 (pc := 5) (As := [.int p1]) (st := []) 2 rfl rfl (ct_Is_isMaker X 2 rfl p1 σ) (Nat.le_trans (Nat.le_of_ble_eq_true rfl) hF0) rfl rfl (Nat.le_of_ble_eq_true rfl) dk_Nm_knows_5 (fun q1 => ?_)
  refine rn_if_ne (pc := 8) 17 dk_Nm_knows_8 (by decide) (fun c2 => ?_) (fun c2 => ?_)
  · refine rn_aload_n (pc := 17) 0 dk_Nm_knows_17 rfl rfl rfl ?_
    refine gf_Nm_18 (pc := 18) rfl dk_Nm_knows_18 ?_
    refine rn_iload_n (pc := 21) 2 dk_Nm_knows_21 rfl rfl ?_
    refine cl_Nm_158 (pc := 22) (As := [.int p2]) (st := []) 2 rfl rfl (ct_Is_isPart X 2 rfl p2 q1.2) (Nat.le_trans (Nat.le_of_ble_eq_true rfl) hF0) rfl rfl (Nat.le_of_ble_eq_true rfl) dk_Nm_knows_22 (fun q3 => ?_)
    refine rn_if_ne (pc := 25) 35 dk_Nm_knows_25 (by decide) (fun c4 => ?_) (fun c4 => ?_)
    · refine rn_aload_n (pc := 35) 0 dk_Nm_knows_35 rfl rfl rfl ?_
      refine gf_Nm_18 (pc := 36) rfl dk_Nm_knows_36 ?_
      refine rn_iload_n (pc := 39) 1 dk_Nm_knows_39 rfl rfl ?_
      refine rn_iload_n (pc := 40) 2 dk_Nm_knows_40 rfl rfl ?_
      refine rn_iload_n (pc := 41) 3 dk_Nm_knows_41 rfl rfl ?_
      refine cl_Nm_161 (pc := 42) (As := [.int p1, .int p2, .int p3]) (st := []) 2 rfl rfl (ct_Is_learn X 2 rfl p1 p2 p3 q3.2) (Nat.le_trans (Nat.le_of_ble_eq_true rfl) hF0) rfl rfl (Nat.le_of_ble_eq_true rfl) dk_Nm_knows_42 (fun q5 => ?_)
      refine rn_if_eq (pc := 45) 52 dk_Nm_knows_45 (by decide) (fun c6 => ?_) (fun c6 => ?_)
      · refine rn_iconst (pc := 52) (0 : Int32) dk_Nm_knows_52 cn_i_0 ?_
        exact rn_iret rfl dk_Nm_knows_53
      · refine rn_iconst (pc := 48) (1 : Int32) dk_Nm_knows_48 cn_i_1 ?_
        refine rn_goto (pc := 49) 53 dk_Nm_knows_49 (by decide) ?_
        exact rn_iret rfl dk_Nm_knows_53
    · refine rn_aload_n (pc := 28) 0 dk_Nm_knows_28 rfl rfl rfl ?_
      refine rn_bipush (pc := 29) (-6 : Int32) dk_Nm_knows_29 cn_b_m6 ?_
      refine cl_Nm_73 (pc := 31) (As := [.int (-6 : Int32)]) (st := []) rfl (ct_Nm_refuse X (-6 : Int32) q3.2) (Nat.le_trans (Nat.le_of_ble_eq_true rfl) hF0) rfl rfl (Nat.le_of_ble_eq_true rfl) dk_Nm_knows_31 (fun q7 => ?_)
      exact rn_iret rfl dk_Nm_knows_34
  · refine rn_aload_n (pc := 11) 0 dk_Nm_knows_11 rfl rfl rfl ?_
    refine rn_iconst (pc := 12) (-1 : Int32) dk_Nm_knows_12 cn_i_m1 ?_
    refine cl_Nm_73 (pc := 13) (As := [.int (-1 : Int32)]) (st := []) rfl (ct_Nm_refuse X (-1 : Int32) q1.2) (Nat.le_trans (Nat.le_of_ble_eq_true rfl) hF0) rfl rfl (Nat.le_of_ble_eq_true rfl) dk_Nm_knows_13 (fun q8 => ?_)
    exact rn_iret rfl dk_Nm_knows_16
theorem dk_Is_join_0 : decode mi_Is_join.2.1 0 = .ok (.aload_n 0, 1) := by decide +kernel
theorem dk_Is_join_1 : decode mi_Is_join.2.1 1 = .ok (.iload_n 1, 1) := by decide +kernel
theorem dk_Is_join_2 : decode mi_Is_join.2.1 2 = .ok (.invokevirtual 59, 3) := by decide +kernel
theorem dk_Is_join_5 : decode mi_Is_join.2.1 5 = .ok (.ifCond .eq 11, 3) := by decide +kernel
theorem dk_Is_join_8 : decode mi_Is_join.2.1 8 = .ok (.aload_n 0, 1) := by decide +kernel
theorem dk_Is_join_9 : decode mi_Is_join.2.1 9 = .ok (.iload_n 2, 1) := by decide +kernel
theorem dk_Is_join_10 : decode mi_Is_join.2.1 10 = .ok (.invokevirtual 59, 3) := by decide +kernel
theorem dk_Is_join_13 : decode mi_Is_join.2.1 13 = .ok (.ifCond .ne 5, 3) := by decide +kernel
theorem dk_Is_join_16 : decode mi_Is_join.2.1 16 = .ok (.iconst 0, 1) := by decide +kernel
theorem dk_Is_join_17 : decode mi_Is_join.2.1 17 = .ok (.ireturn, 1) := by decide +kernel
theorem dk_Is_join_18 : decode mi_Is_join.2.1 18 = .ok (.aload_n 0, 1) := by decide +kernel
theorem dk_Is_join_19 : decode mi_Is_join.2.1 19 = .ok (.getfield 24, 3) := by decide +kernel
theorem dk_Is_join_22 : decode mi_Is_join.2.1 22 = .ok (.iload_n 1, 1) := by decide +kernel
theorem dk_Is_join_23 : decode mi_Is_join.2.1 23 = .ok (.iaload, 1) := by decide +kernel
theorem dk_Is_join_24 : decode mi_Is_join.2.1 24 = .ok (.iconst 1, 1) := by decide +kernel
theorem dk_Is_join_25 : decode mi_Is_join.2.1 25 = .ok (.iload_n 2, 1) := by decide +kernel
theorem dk_Is_join_26 : decode mi_Is_join.2.1 26 = .ok (.ishl, 1) := by decide +kernel
theorem dk_Is_join_27 : decode mi_Is_join.2.1 27 = .ok (.iand, 1) := by decide +kernel
theorem dk_Is_join_28 : decode mi_Is_join.2.1 28 = .ok (.ifCond .eq 7, 3) := by decide +kernel
theorem dk_Is_join_31 : decode mi_Is_join.2.1 31 = .ok (.iconst 1, 1) := by decide +kernel
theorem dk_Is_join_32 : decode mi_Is_join.2.1 32 = .ok (.goto 4, 3) := by decide +kernel
theorem dk_Is_join_35 : decode mi_Is_join.2.1 35 = .ok (.iconst 0, 1) := by decide +kernel
theorem dk_Is_join_36 : decode mi_Is_join.2.1 36 = .ok (.istore 4, 2) := by decide +kernel
theorem dk_Is_join_38 : decode mi_Is_join.2.1 38 = .ok (.aload_n 0, 1) := by decide +kernel
theorem dk_Is_join_39 : decode mi_Is_join.2.1 39 = .ok (.getfield 24, 3) := by decide +kernel
theorem dk_Is_join_42 : decode mi_Is_join.2.1 42 = .ok (.iload_n 1, 1) := by decide +kernel
theorem dk_Is_join_43 : decode mi_Is_join.2.1 43 = .ok (.iload_n 3, 1) := by decide +kernel
theorem dk_Is_join_44 : decode mi_Is_join.2.1 44 = .ok (.ifCond .eq 16, 3) := by decide +kernel
theorem dk_Is_join_47 : decode mi_Is_join.2.1 47 = .ok (.aload_n 0, 1) := by decide +kernel
theorem dk_Is_join_48 : decode mi_Is_join.2.1 48 = .ok (.getfield 24, 3) := by decide +kernel
theorem dk_Is_join_51 : decode mi_Is_join.2.1 51 = .ok (.iload_n 1, 1) := by decide +kernel
theorem dk_Is_join_52 : decode mi_Is_join.2.1 52 = .ok (.iaload, 1) := by decide +kernel
theorem dk_Is_join_53 : decode mi_Is_join.2.1 53 = .ok (.iconst 1, 1) := by decide +kernel
theorem dk_Is_join_54 : decode mi_Is_join.2.1 54 = .ok (.iload_n 2, 1) := by decide +kernel
theorem dk_Is_join_55 : decode mi_Is_join.2.1 55 = .ok (.ishl, 1) := by decide +kernel
theorem dk_Is_join_56 : decode mi_Is_join.2.1 56 = .ok (.ior, 1) := by decide +kernel
theorem dk_Is_join_57 : decode mi_Is_join.2.1 57 = .ok (.goto 15, 3) := by decide +kernel
theorem dk_Is_join_60 : decode mi_Is_join.2.1 60 = .ok (.aload_n 0, 1) := by decide +kernel
theorem dk_Is_join_61 : decode mi_Is_join.2.1 61 = .ok (.getfield 24, 3) := by decide +kernel
theorem dk_Is_join_64 : decode mi_Is_join.2.1 64 = .ok (.iload_n 1, 1) := by decide +kernel
theorem dk_Is_join_65 : decode mi_Is_join.2.1 65 = .ok (.iaload, 1) := by decide +kernel
theorem dk_Is_join_66 : decode mi_Is_join.2.1 66 = .ok (.iconst 1, 1) := by decide +kernel
theorem dk_Is_join_67 : decode mi_Is_join.2.1 67 = .ok (.iload_n 2, 1) := by decide +kernel
theorem dk_Is_join_68 : decode mi_Is_join.2.1 68 = .ok (.ishl, 1) := by decide +kernel
theorem dk_Is_join_69 : decode mi_Is_join.2.1 69 = .ok (.iconst (-1), 1) := by decide +kernel
theorem dk_Is_join_70 : decode mi_Is_join.2.1 70 = .ok (.ixor, 1) := by decide +kernel
theorem dk_Is_join_71 : decode mi_Is_join.2.1 71 = .ok (.iand, 1) := by decide +kernel
theorem dk_Is_join_72 : decode mi_Is_join.2.1 72 = .ok (.iastore, 1) := by decide +kernel
theorem dk_Is_join_73 : decode mi_Is_join.2.1 73 = .ok (.aload_n 0, 1) := by decide +kernel
theorem dk_Is_join_74 : decode mi_Is_join.2.1 74 = .ok (.getfield 24, 3) := by decide +kernel
theorem dk_Is_join_77 : decode mi_Is_join.2.1 77 = .ok (.iload_n 2, 1) := by decide +kernel
theorem dk_Is_join_78 : decode mi_Is_join.2.1 78 = .ok (.iload_n 3, 1) := by decide +kernel
theorem dk_Is_join_79 : decode mi_Is_join.2.1 79 = .ok (.ifCond .eq 16, 3) := by decide +kernel
theorem dk_Is_join_82 : decode mi_Is_join.2.1 82 = .ok (.aload_n 0, 1) := by decide +kernel
theorem dk_Is_join_83 : decode mi_Is_join.2.1 83 = .ok (.getfield 24, 3) := by decide +kernel
theorem dk_Is_join_86 : decode mi_Is_join.2.1 86 = .ok (.iload_n 2, 1) := by decide +kernel
theorem dk_Is_join_87 : decode mi_Is_join.2.1 87 = .ok (.iaload, 1) := by decide +kernel
theorem dk_Is_join_88 : decode mi_Is_join.2.1 88 = .ok (.iconst 1, 1) := by decide +kernel
theorem dk_Is_join_89 : decode mi_Is_join.2.1 89 = .ok (.iload_n 1, 1) := by decide +kernel
theorem dk_Is_join_90 : decode mi_Is_join.2.1 90 = .ok (.ishl, 1) := by decide +kernel
theorem dk_Is_join_91 : decode mi_Is_join.2.1 91 = .ok (.ior, 1) := by decide +kernel
theorem dk_Is_join_92 : decode mi_Is_join.2.1 92 = .ok (.goto 15, 3) := by decide +kernel
theorem dk_Is_join_95 : decode mi_Is_join.2.1 95 = .ok (.aload_n 0, 1) := by decide +kernel
theorem dk_Is_join_96 : decode mi_Is_join.2.1 96 = .ok (.getfield 24, 3) := by decide +kernel
theorem dk_Is_join_99 : decode mi_Is_join.2.1 99 = .ok (.iload_n 2, 1) := by decide +kernel
theorem dk_Is_join_100 : decode mi_Is_join.2.1 100 = .ok (.iaload, 1) := by decide +kernel
theorem dk_Is_join_101 : decode mi_Is_join.2.1 101 = .ok (.iconst 1, 1) := by decide +kernel
theorem dk_Is_join_102 : decode mi_Is_join.2.1 102 = .ok (.iload_n 1, 1) := by decide +kernel
theorem dk_Is_join_103 : decode mi_Is_join.2.1 103 = .ok (.ishl, 1) := by decide +kernel
theorem dk_Is_join_104 : decode mi_Is_join.2.1 104 = .ok (.iconst (-1), 1) := by decide +kernel
theorem dk_Is_join_105 : decode mi_Is_join.2.1 105 = .ok (.ixor, 1) := by decide +kernel
theorem dk_Is_join_106 : decode mi_Is_join.2.1 106 = .ok (.iand, 1) := by decide +kernel
theorem dk_Is_join_107 : decode mi_Is_join.2.1 107 = .ok (.iastore, 1) := by decide +kernel
theorem dk_Is_join_108 : decode mi_Is_join.2.1 108 = .ok (.iload 4, 2) := by decide +kernel
theorem dk_Is_join_110 : decode mi_Is_join.2.1 110 = .ok (.ireturn, 1) := by decide +kernel
def Is_join_j72 (o : Nat) (x1 : Int32) (x2 : Int32) (x3 : Int32) (x4 : Int32) (y1 : Int32) (y2 : Int32) (σ : nm_St) : Option (Int32 × nm_St) :=
  (nm_g (nm_in y1 8) (
  (nm_let (nm_pI σ (o + 5) y1.toNatClampNeg y2) fun s10 =>
  (if x3 = 0 then
    (nm_g (nm_in x2 8) (
    (nm_g (nm_in x2 8) (
    (nm_let (nm_pI s10 (o + 5) x2.toNatClampNeg ((s10.1 (o + 5) x2.toNatClampNeg) &&& (((1 : Int32) <<< (x1 &&& 31)) ^^^ (-1 : Int32)))) fun s14 =>
    (nm_g (nm_bz x4) (
    some (x4, s14))))))))
  else
    (nm_g (nm_in x2 8) (
    (nm_g (nm_in x2 8) (
    (nm_let (nm_pI s10 (o + 5) x2.toNatClampNeg ((s10.1 (o + 5) x2.toNatClampNeg) ||| ((1 : Int32) <<< (x1 &&& 31)))) fun s18 =>
    (nm_g (nm_bz x4) (
    some (x4, s18))))))))))))
set_option maxRecDepth 100000 in
set_option maxHeartbeats 4000000 in
theorem r_Is_join_j72 (X : nm_X) (F : nm_F) (hF0 : 1 ≤ nm_d F) (o : Nat) (ho : nm_isl o = true) (x1 : Int32) (x2 : Int32) (x3 : Int32) (x4 : Int32) (y1 : Int32) (y2 : Int32) (σ : nm_St) : Rn X mi_Is_join F (nm_Qf X F nm_wI) [(0, .ref o), (1, .int x1), (2, .int x2), (3, .int x3), (4, .int x4)] [.int y2, .int y1, .ref (o + 5)] 72 σ (Is_join_j72 o x1 x2 x3 x4 y1 y2 σ) := by
  unfold Is_join_j72
  refine rn_iastore (pc := 72) (nm_i5 ho) dk_Is_join_72 (fun g9 => ?_)
  refine rn_lets (fun s10 => ?_)
  refine rn_aload_n (pc := 73) 0 dk_Is_join_73 rfl rfl (nm_rok_isl ho) ?_
  refine gf_Is_24 (pc := 74) o ho rfl dk_Is_join_74 ?_
  refine rn_iload_n (pc := 77) 2 dk_Is_join_77 rfl rfl ?_
  refine rn_iload_n (pc := 78) 3 dk_Is_join_78 rfl rfl ?_
  refine rn_if_eq (pc := 79) 95 dk_Is_join_79 (by decide) (fun c11 => ?_) (fun c11 => ?_)
  · refine rn_aload_n (pc := 95) 0 dk_Is_join_95 rfl rfl (nm_rok_isl ho) ?_
    refine gf_Is_24 (pc := 96) o ho rfl dk_Is_join_96 ?_
    refine rn_iload_n (pc := 99) 2 dk_Is_join_99 rfl rfl ?_
    refine rn_iaload (pc := 100) (nm_i5 ho) dk_Is_join_100 (fun g12 => ?_)
    refine rn_iconst (pc := 101) (1 : Int32) dk_Is_join_101 cn_i_1 ?_
    refine rn_iload_n (pc := 102) 1 dk_Is_join_102 rfl rfl ?_
    refine rn_ishl (pc := 103) dk_Is_join_103 ?_
    refine rn_iconst (pc := 104) (-1 : Int32) dk_Is_join_104 cn_i_m1 ?_
    refine rn_ixor (pc := 105) dk_Is_join_105 ?_
    refine rn_iand (pc := 106) dk_Is_join_106 ?_
    refine rn_iastore (pc := 107) (nm_i5 ho) dk_Is_join_107 (fun g13 => ?_)
    refine rn_lets (fun s14 => ?_)
    refine rn_iload (pc := 108) dk_Is_join_108 rfl ?_
    refine rn_guard (fun g15 => ?_)
    exact rn_zret (ty := .boolean) rfl (nm_bz_n g15) dk_Is_join_110
  · refine rn_aload_n (pc := 82) 0 dk_Is_join_82 rfl rfl (nm_rok_isl ho) ?_
    refine gf_Is_24 (pc := 83) o ho rfl dk_Is_join_83 ?_
    refine rn_iload_n (pc := 86) 2 dk_Is_join_86 rfl rfl ?_
    refine rn_iaload (pc := 87) (nm_i5 ho) dk_Is_join_87 (fun g16 => ?_)
    refine rn_iconst (pc := 88) (1 : Int32) dk_Is_join_88 cn_i_1 ?_
    refine rn_iload_n (pc := 89) 1 dk_Is_join_89 rfl rfl ?_
    refine rn_ishl (pc := 90) dk_Is_join_90 ?_
    refine rn_ior (pc := 91) dk_Is_join_91 ?_
    refine rn_goto (pc := 92) 107 dk_Is_join_92 (by decide) ?_
    refine rn_iastore (pc := 107) (nm_i5 ho) dk_Is_join_107 (fun g17 => ?_)
    refine rn_lets (fun s18 => ?_)
    refine rn_iload (pc := 108) dk_Is_join_108 rfl ?_
    refine rn_guard (fun g19 => ?_)
    exact rn_zret (ty := .boolean) rfl (nm_bz_n g19) dk_Is_join_110
def Is_join_j36 (o : Nat) (x1 : Int32) (x2 : Int32) (x3 : Int32) (y0 : Int32) (σ : nm_St) : Option (Int32 × nm_St) :=
  (if x3 = 0 then
    (nm_g (nm_in x1 8) (
    Is_join_j72 o x1 x2 x3 y0 x1 ((σ.1 (o + 5) x1.toNatClampNeg) &&& (((1 : Int32) <<< (x2 &&& 31)) ^^^ (-1 : Int32))) σ))
  else
    (nm_g (nm_in x1 8) (
    Is_join_j72 o x1 x2 x3 y0 x1 ((σ.1 (o + 5) x1.toNatClampNeg) ||| ((1 : Int32) <<< (x2 &&& 31))) σ)))
set_option maxRecDepth 100000 in
set_option maxHeartbeats 4000000 in
theorem r_Is_join_j36 (X : nm_X) (F : nm_F) (hF0 : 1 ≤ nm_d F) (o : Nat) (ho : nm_isl o = true) (x1 : Int32) (x2 : Int32) (x3 : Int32) (y0 : Int32) (σ : nm_St) : Rn X mi_Is_join F (nm_Qf X F nm_wI) [(0, .ref o), (1, .int x1), (2, .int x2), (3, .int x3)] [.int y0] 36 σ (Is_join_j36 o x1 x2 x3 y0 σ) := by
  unfold Is_join_j36
  refine rn_istore (pc := 36) dk_Is_join_36 rfl rfl ?_
  refine rn_aload_n (pc := 38) 0 dk_Is_join_38 rfl rfl (nm_rok_isl ho) ?_
  refine gf_Is_24 (pc := 39) o ho rfl dk_Is_join_39 ?_
  refine rn_iload_n (pc := 42) 1 dk_Is_join_42 rfl rfl ?_
  refine rn_iload_n (pc := 43) 3 dk_Is_join_43 rfl rfl ?_
  refine rn_if_eq (pc := 44) 60 dk_Is_join_44 (by decide) (fun c7 => ?_) (fun c7 => ?_)
  · refine rn_aload_n (pc := 60) 0 dk_Is_join_60 rfl rfl (nm_rok_isl ho) ?_
    refine gf_Is_24 (pc := 61) o ho rfl dk_Is_join_61 ?_
    refine rn_iload_n (pc := 64) 1 dk_Is_join_64 rfl rfl ?_
    refine rn_iaload (pc := 65) (nm_i5 ho) dk_Is_join_65 (fun g8 => ?_)
    refine rn_iconst (pc := 66) (1 : Int32) dk_Is_join_66 cn_i_1 ?_
    refine rn_iload_n (pc := 67) 2 dk_Is_join_67 rfl rfl ?_
    refine rn_ishl (pc := 68) dk_Is_join_68 ?_
    refine rn_iconst (pc := 69) (-1 : Int32) dk_Is_join_69 cn_i_m1 ?_
    refine rn_ixor (pc := 70) dk_Is_join_70 ?_
    refine rn_iand (pc := 71) dk_Is_join_71 ?_
    exact rn_sub (by rfl) (r_Is_join_j72 X F hF0 o ho x1 x2 x3 y0 x1 ((σ.1 (o + 5) x1.toNatClampNeg) &&& (((1 : Int32) <<< (x2 &&& 31)) ^^^ (-1 : Int32))) σ)
  · refine rn_aload_n (pc := 47) 0 dk_Is_join_47 rfl rfl (nm_rok_isl ho) ?_
    refine gf_Is_24 (pc := 48) o ho rfl dk_Is_join_48 ?_
    refine rn_iload_n (pc := 51) 1 dk_Is_join_51 rfl rfl ?_
    refine rn_iaload (pc := 52) (nm_i5 ho) dk_Is_join_52 (fun g20 => ?_)
    refine rn_iconst (pc := 53) (1 : Int32) dk_Is_join_53 cn_i_1 ?_
    refine rn_iload_n (pc := 54) 2 dk_Is_join_54 rfl rfl ?_
    refine rn_ishl (pc := 55) dk_Is_join_55 ?_
    refine rn_ior (pc := 56) dk_Is_join_56 ?_
    refine rn_goto (pc := 57) 72 dk_Is_join_57 (by decide) ?_
    exact rn_sub (by rfl) (r_Is_join_j72 X F hF0 o ho x1 x2 x3 y0 x1 ((σ.1 (o + 5) x1.toNatClampNeg) ||| ((1 : Int32) <<< (x2 &&& 31))) σ)
def Is_join (o : Nat) (p1 : Int32) (p2 : Int32) (p3 : Int32) (σ : nm_St) : Option (Int32 × nm_St) :=
  ((Is_isMaker o p1 σ).bind fun q1 =>
  (if q1.1 = 0 then
    some ((0 : Int32), q1.2)
  else
    ((Is_isMaker o p2 q1.2).bind fun q3 =>
    (if q3.1 = 0 then
      some ((0 : Int32), q3.2)
    else
      (nm_g (nm_in p1 8) (
      (if ((q3.2.1 (o + 5) p1.toNatClampNeg) &&& ((1 : Int32) <<< (p2 &&& 31))) = 0 then
        Is_join_j36 o p1 p2 p3 (0 : Int32) q3.2
      else
        Is_join_j36 o p1 p2 p3 (1 : Int32) q3.2)))))))
set_option maxRecDepth 100000 in
set_option maxHeartbeats 4000000 in
theorem ct_Is_join (X : nm_X) (o : Nat) (ho : nm_isl o = true) (p1 : Int32) (p2 : Int32) (p3 : Int32) (σ : nm_St) : Ct X mi_Is_join 1 nm_wI [.ref o, .int p1, .int p2, .int p3] σ (Is_join o p1 p2 p3 σ) := by
  refine Ct.of (by decide +kernel) rfl (fun F hF0 => ?_)
  unfold Is_join
  refine rn_aload_n (pc := 0) 0 dk_Is_join_0 rfl rfl (nm_rok_isl ho) ?_
  refine rn_iload_n (pc := 1) 1 dk_Is_join_1 rfl rfl ?_
  refine cl_Is_59 (pc := 2) (As := [.int p1]) (st := []) o ho rfl (ct_Is_isMaker X o ho p1 σ) (Nat.le_trans (Nat.le_of_ble_eq_true rfl) hF0) rfl rfl (Nat.le_of_ble_eq_true rfl) dk_Is_join_2 (fun q1 => ?_)
  refine rn_if_eq (pc := 5) 16 dk_Is_join_5 (by decide) (fun c2 => ?_) (fun c2 => ?_)
  · refine rn_iconst (pc := 16) (0 : Int32) dk_Is_join_16 cn_i_0 ?_
    exact rn_zret (ty := .boolean) rfl rfl dk_Is_join_17
  · refine rn_aload_n (pc := 8) 0 dk_Is_join_8 rfl rfl (nm_rok_isl ho) ?_
    refine rn_iload_n (pc := 9) 2 dk_Is_join_9 rfl rfl ?_
    refine cl_Is_59 (pc := 10) (As := [.int p2]) (st := []) o ho rfl (ct_Is_isMaker X o ho p2 q1.2) (Nat.le_trans (Nat.le_of_ble_eq_true rfl) hF0) rfl rfl (Nat.le_of_ble_eq_true rfl) dk_Is_join_10 (fun q3 => ?_)
    refine rn_if_ne (pc := 13) 18 dk_Is_join_13 (by decide) (fun c4 => ?_) (fun c4 => ?_)
    · refine rn_aload_n (pc := 18) 0 dk_Is_join_18 rfl rfl (nm_rok_isl ho) ?_
      refine gf_Is_24 (pc := 19) o ho rfl dk_Is_join_19 ?_
      refine rn_iload_n (pc := 22) 1 dk_Is_join_22 rfl rfl ?_
      refine rn_iaload (pc := 23) (nm_i5 ho) dk_Is_join_23 (fun g5 => ?_)
      refine rn_iconst (pc := 24) (1 : Int32) dk_Is_join_24 cn_i_1 ?_
      refine rn_iload_n (pc := 25) 2 dk_Is_join_25 rfl rfl ?_
      refine rn_ishl (pc := 26) dk_Is_join_26 ?_
      refine rn_iand (pc := 27) dk_Is_join_27 ?_
      refine rn_if_eq (pc := 28) 35 dk_Is_join_28 (by decide) (fun c6 => ?_) (fun c6 => ?_)
      · refine rn_iconst (pc := 35) (0 : Int32) dk_Is_join_35 cn_i_0 ?_
        exact rn_sub (by rfl) (r_Is_join_j36 X F hF0 o ho p1 p2 p3 (0 : Int32) q3.2)
      · refine rn_iconst (pc := 31) (1 : Int32) dk_Is_join_31 cn_i_1 ?_
        refine rn_goto (pc := 32) 36 dk_Is_join_32 (by decide) ?_
        exact rn_sub (by rfl) (r_Is_join_j36 X F hF0 o ho p1 p2 p3 (1 : Int32) q3.2)
    · refine rn_iconst (pc := 16) (0 : Int32) dk_Is_join_16 cn_i_0 ?_
      exact rn_zret (ty := .boolean) rfl rfl dk_Is_join_17
theorem dk_Nm_kin_0 : decode mi_Nm_kin.2.1 0 = .ok (.aload_n 0, 1) := by decide +kernel
theorem dk_Nm_kin_1 : decode mi_Nm_kin.2.1 1 = .ok (.getfield 18, 3) := by decide +kernel
theorem dk_Nm_kin_4 : decode mi_Nm_kin.2.1 4 = .ok (.iload_n 1, 1) := by decide +kernel
theorem dk_Nm_kin_5 : decode mi_Nm_kin.2.1 5 = .ok (.invokevirtual 107, 3) := by decide +kernel
theorem dk_Nm_kin_8 : decode mi_Nm_kin.2.1 8 = .ok (.ifCond .eq 14, 3) := by decide +kernel
theorem dk_Nm_kin_11 : decode mi_Nm_kin.2.1 11 = .ok (.aload_n 0, 1) := by decide +kernel
theorem dk_Nm_kin_12 : decode mi_Nm_kin.2.1 12 = .ok (.getfield 18, 3) := by decide +kernel
theorem dk_Nm_kin_15 : decode mi_Nm_kin.2.1 15 = .ok (.iload_n 2, 1) := by decide +kernel
theorem dk_Nm_kin_16 : decode mi_Nm_kin.2.1 16 = .ok (.invokevirtual 107, 3) := by decide +kernel
theorem dk_Nm_kin_19 : decode mi_Nm_kin.2.1 19 = .ok (.ifCond .ne 9, 3) := by decide +kernel
theorem dk_Nm_kin_22 : decode mi_Nm_kin.2.1 22 = .ok (.aload_n 0, 1) := by decide +kernel
theorem dk_Nm_kin_23 : decode mi_Nm_kin.2.1 23 = .ok (.iconst (-1), 1) := by decide +kernel
theorem dk_Nm_kin_24 : decode mi_Nm_kin.2.1 24 = .ok (.invokevirtual 73, 3) := by decide +kernel
theorem dk_Nm_kin_27 : decode mi_Nm_kin.2.1 27 = .ok (.ireturn, 1) := by decide +kernel
theorem dk_Nm_kin_28 : decode mi_Nm_kin.2.1 28 = .ok (.iload_n 1, 1) := by decide +kernel
theorem dk_Nm_kin_29 : decode mi_Nm_kin.2.1 29 = .ok (.iload_n 2, 1) := by decide +kernel
theorem dk_Nm_kin_30 : decode mi_Nm_kin.2.1 30 = .ok (.if_icmp .ne 10, 3) := by decide +kernel
theorem dk_Nm_kin_33 : decode mi_Nm_kin.2.1 33 = .ok (.aload_n 0, 1) := by decide +kernel
theorem dk_Nm_kin_34 : decode mi_Nm_kin.2.1 34 = .ok (.bipush (-6), 2) := by decide +kernel
theorem dk_Nm_kin_36 : decode mi_Nm_kin.2.1 36 = .ok (.invokevirtual 73, 3) := by decide +kernel
theorem dk_Nm_kin_39 : decode mi_Nm_kin.2.1 39 = .ok (.ireturn, 1) := by decide +kernel
theorem dk_Nm_kin_40 : decode mi_Nm_kin.2.1 40 = .ok (.aload_n 0, 1) := by decide +kernel
theorem dk_Nm_kin_41 : decode mi_Nm_kin.2.1 41 = .ok (.getfield 18, 3) := by decide +kernel
theorem dk_Nm_kin_44 : decode mi_Nm_kin.2.1 44 = .ok (.iload_n 1, 1) := by decide +kernel
theorem dk_Nm_kin_45 : decode mi_Nm_kin.2.1 45 = .ok (.iload_n 2, 1) := by decide +kernel
theorem dk_Nm_kin_46 : decode mi_Nm_kin.2.1 46 = .ok (.iload_n 3, 1) := by decide +kernel
theorem dk_Nm_kin_47 : decode mi_Nm_kin.2.1 47 = .ok (.invokevirtual 165, 3) := by decide +kernel
theorem dk_Nm_kin_50 : decode mi_Nm_kin.2.1 50 = .ok (.ifCond .eq 7, 3) := by decide +kernel
theorem dk_Nm_kin_53 : decode mi_Nm_kin.2.1 53 = .ok (.iconst 1, 1) := by decide +kernel
theorem dk_Nm_kin_54 : decode mi_Nm_kin.2.1 54 = .ok (.goto 4, 3) := by decide +kernel
theorem dk_Nm_kin_57 : decode mi_Nm_kin.2.1 57 = .ok (.iconst 0, 1) := by decide +kernel
theorem dk_Nm_kin_58 : decode mi_Nm_kin.2.1 58 = .ok (.ireturn, 1) := by decide +kernel
def Nm_kin (p1 : Int32) (p2 : Int32) (p3 : Int32) (σ : nm_St) : Option (Int32 × nm_St) :=
  ((Is_isMaker 2 p1 σ).bind fun q1 =>
  (if q1.1 = 0 then
    ((Nm_refuse (-1 : Int32) q1.2).bind fun q3 =>
    some (q3.1, q3.2))
  else
    ((Is_isMaker 2 p2 q1.2).bind fun q4 =>
    (if q4.1 = 0 then
      ((Nm_refuse (-1 : Int32) q4.2).bind fun q10 =>
      some (q10.1, q10.2))
    else
      (if p1 = p2 then
        ((Nm_refuse (-6 : Int32) q4.2).bind fun q9 =>
        some (q9.1, q9.2))
      else
        ((Is_join 2 p1 p2 p3 q4.2).bind fun q7 =>
        (if q7.1 = 0 then
          some ((0 : Int32), q7.2)
        else
          some ((1 : Int32), q7.2))))))))
set_option maxRecDepth 100000 in
set_option maxHeartbeats 4000000 in
theorem ct_Nm_kin (X : nm_X) (p1 : Int32) (p2 : Int32) (p3 : Int32) (σ : nm_St) : Ct X mi_Nm_kin 2 nm_wI [.ref 0, .int p1, .int p2, .int p3] σ (Nm_kin p1 p2 p3 σ) := by
  refine Ct.of (by decide +kernel) rfl (fun F hF0 => ?_)
  unfold Nm_kin
  refine rn_aload_n (pc := 0) 0 dk_Nm_kin_0 rfl rfl rfl ?_
  refine gf_Nm_18 (pc := 1) rfl dk_Nm_kin_1 ?_
  refine rn_iload_n (pc := 4) 1 dk_Nm_kin_4 rfl rfl ?_
  refine cl_Nm_107 (pc := 5) (As := [.int p1]) (st := []) 2 rfl rfl (ct_Is_isMaker X 2 rfl p1 σ) (Nat.le_trans (Nat.le_of_ble_eq_true rfl) hF0) rfl rfl (Nat.le_of_ble_eq_true rfl) dk_Nm_kin_5 (fun q1 => ?_)
  refine rn_if_eq (pc := 8) 22 dk_Nm_kin_8 (by decide) (fun c2 => ?_) (fun c2 => ?_)
  · refine rn_aload_n (pc := 22) 0 dk_Nm_kin_22 rfl rfl rfl ?_
    refine rn_iconst (pc := 23) (-1 : Int32) dk_Nm_kin_23 cn_i_m1 ?_
    refine cl_Nm_73 (pc := 24) (As := [.int (-1 : Int32)]) (st := []) rfl (ct_Nm_refuse X (-1 : Int32) q1.2) (Nat.le_trans (Nat.le_of_ble_eq_true rfl) hF0) rfl rfl (Nat.le_of_ble_eq_true rfl) dk_Nm_kin_24 (fun q3 => ?_)
    exact rn_iret rfl dk_Nm_kin_27
  · refine rn_aload_n (pc := 11) 0 dk_Nm_kin_11 rfl rfl rfl ?_
    refine gf_Nm_18 (pc := 12) rfl dk_Nm_kin_12 ?_
    refine rn_iload_n (pc := 15) 2 dk_Nm_kin_15 rfl rfl ?_
    refine cl_Nm_107 (pc := 16) (As := [.int p2]) (st := []) 2 rfl rfl (ct_Is_isMaker X 2 rfl p2 q1.2) (Nat.le_trans (Nat.le_of_ble_eq_true rfl) hF0) rfl rfl (Nat.le_of_ble_eq_true rfl) dk_Nm_kin_16 (fun q4 => ?_)
    refine rn_if_ne (pc := 19) 28 dk_Nm_kin_19 (by decide) (fun c5 => ?_) (fun c5 => ?_)
    · refine rn_iload_n (pc := 28) 1 dk_Nm_kin_28 rfl rfl ?_
      refine rn_iload_n (pc := 29) 2 dk_Nm_kin_29 rfl rfl ?_
      refine rn_icmp_ne (pc := 30) 40 dk_Nm_kin_30 (by decide) (fun c6 => ?_) (fun c6 => ?_)
      · refine rn_aload_n (pc := 40) 0 dk_Nm_kin_40 rfl rfl rfl ?_
        refine gf_Nm_18 (pc := 41) rfl dk_Nm_kin_41 ?_
        refine rn_iload_n (pc := 44) 1 dk_Nm_kin_44 rfl rfl ?_
        refine rn_iload_n (pc := 45) 2 dk_Nm_kin_45 rfl rfl ?_
        refine rn_iload_n (pc := 46) 3 dk_Nm_kin_46 rfl rfl ?_
        refine cl_Nm_165 (pc := 47) (As := [.int p1, .int p2, .int p3]) (st := []) 2 rfl rfl (ct_Is_join X 2 rfl p1 p2 p3 q4.2) (Nat.le_trans (Nat.le_of_ble_eq_true rfl) hF0) rfl rfl (Nat.le_of_ble_eq_true rfl) dk_Nm_kin_47 (fun q7 => ?_)
        refine rn_if_eq (pc := 50) 57 dk_Nm_kin_50 (by decide) (fun c8 => ?_) (fun c8 => ?_)
        · refine rn_iconst (pc := 57) (0 : Int32) dk_Nm_kin_57 cn_i_0 ?_
          exact rn_iret rfl dk_Nm_kin_58
        · refine rn_iconst (pc := 53) (1 : Int32) dk_Nm_kin_53 cn_i_1 ?_
          refine rn_goto (pc := 54) 58 dk_Nm_kin_54 (by decide) ?_
          exact rn_iret rfl dk_Nm_kin_58
      · refine rn_aload_n (pc := 33) 0 dk_Nm_kin_33 rfl rfl rfl ?_
        refine rn_bipush (pc := 34) (-6 : Int32) dk_Nm_kin_34 cn_b_m6 ?_
        refine cl_Nm_73 (pc := 36) (As := [.int (-6 : Int32)]) (st := []) rfl (ct_Nm_refuse X (-6 : Int32) q4.2) (Nat.le_trans (Nat.le_of_ble_eq_true rfl) hF0) rfl rfl (Nat.le_of_ble_eq_true rfl) dk_Nm_kin_36 (fun q9 => ?_)
        exact rn_iret rfl dk_Nm_kin_39
    · refine rn_aload_n (pc := 22) 0 dk_Nm_kin_22 rfl rfl rfl ?_
      refine rn_iconst (pc := 23) (-1 : Int32) dk_Nm_kin_23 cn_i_m1 ?_
      refine cl_Nm_73 (pc := 24) (As := [.int (-1 : Int32)]) (st := []) rfl (ct_Nm_refuse X (-1 : Int32) q4.2) (Nat.le_trans (Nat.le_of_ble_eq_true rfl) hF0) rfl rfl (Nat.le_of_ble_eq_true rfl) dk_Nm_kin_24 (fun q10 => ?_)
      exact rn_iret rfl dk_Nm_kin_27
theorem dk_Nm_ask_0 : decode mi_Nm_ask.2.1 0 = .ok (.iload_n 1, 1) := by decide +kernel
theorem dk_Nm_ask_1 : decode mi_Nm_ask.2.1 1 = .ok (.ifCond .ne 31, 3) := by decide +kernel
theorem dk_Nm_ask_4 : decode mi_Nm_ask.2.1 4 = .ok (.iload_n 2, 1) := by decide +kernel
theorem dk_Nm_ask_5 : decode mi_Nm_ask.2.1 5 = .ok (.iconst 0, 1) := by decide +kernel
theorem dk_Nm_ask_6 : decode mi_Nm_ask.2.1 6 = .ok (.bipush 99, 2) := by decide +kernel
theorem dk_Nm_ask_8 : decode mi_Nm_ask.2.1 8 = .ok (.invokestatic 144, 3) := by decide +kernel
theorem dk_Nm_ask_11 : decode mi_Nm_ask.2.1 11 = .ok (.ifCond .eq 21, 3) := by decide +kernel
theorem dk_Nm_ask_14 : decode mi_Nm_ask.2.1 14 = .ok (.aload_n 0, 1) := by decide +kernel
theorem dk_Nm_ask_15 : decode mi_Nm_ask.2.1 15 = .ok (.getfield 18, 3) := by decide +kernel
theorem dk_Nm_ask_18 : decode mi_Nm_ask.2.1 18 = .ok (.getfield 168, 3) := by decide +kernel
theorem dk_Nm_ask_21 : decode mi_Nm_ask.2.1 21 = .ok (.istore_n 3, 1) := by decide +kernel
theorem dk_Nm_ask_22 : decode mi_Nm_ask.2.1 22 = .ok (.aload_n 0, 1) := by decide +kernel
theorem dk_Nm_ask_23 : decode mi_Nm_ask.2.1 23 = .ok (.getfield 18, 3) := by decide +kernel
theorem dk_Nm_ask_26 : decode mi_Nm_ask.2.1 26 = .ok (.iload_n 2, 1) := by decide +kernel
theorem dk_Nm_ask_27 : decode mi_Nm_ask.2.1 27 = .ok (.putfield 168, 3) := by decide +kernel
theorem dk_Nm_ask_30 : decode mi_Nm_ask.2.1 30 = .ok (.iload_n 3, 1) := by decide +kernel
theorem dk_Nm_ask_31 : decode mi_Nm_ask.2.1 31 = .ok (.ireturn, 1) := by decide +kernel
theorem dk_Nm_ask_32 : decode mi_Nm_ask.2.1 32 = .ok (.iload_n 1, 1) := by decide +kernel
theorem dk_Nm_ask_33 : decode mi_Nm_ask.2.1 33 = .ok (.iconst 1, 1) := by decide +kernel
theorem dk_Nm_ask_34 : decode mi_Nm_ask.2.1 34 = .ok (.if_icmp .ne 32, 3) := by decide +kernel
theorem dk_Nm_ask_37 : decode mi_Nm_ask.2.1 37 = .ok (.iload_n 2, 1) := by decide +kernel
theorem dk_Nm_ask_38 : decode mi_Nm_ask.2.1 38 = .ok (.iconst 0, 1) := by decide +kernel
theorem dk_Nm_ask_39 : decode mi_Nm_ask.2.1 39 = .ok (.sipush 9999, 3) := by decide +kernel
theorem dk_Nm_ask_42 : decode mi_Nm_ask.2.1 42 = .ok (.invokestatic 144, 3) := by decide +kernel
theorem dk_Nm_ask_45 : decode mi_Nm_ask.2.1 45 = .ok (.ifCond .eq 21, 3) := by decide +kernel
theorem dk_Nm_ask_48 : decode mi_Nm_ask.2.1 48 = .ok (.aload_n 0, 1) := by decide +kernel
theorem dk_Nm_ask_49 : decode mi_Nm_ask.2.1 49 = .ok (.getfield 18, 3) := by decide +kernel
theorem dk_Nm_ask_52 : decode mi_Nm_ask.2.1 52 = .ok (.getfield 171, 3) := by decide +kernel
theorem dk_Nm_ask_55 : decode mi_Nm_ask.2.1 55 = .ok (.istore_n 3, 1) := by decide +kernel
theorem dk_Nm_ask_56 : decode mi_Nm_ask.2.1 56 = .ok (.aload_n 0, 1) := by decide +kernel
theorem dk_Nm_ask_57 : decode mi_Nm_ask.2.1 57 = .ok (.getfield 18, 3) := by decide +kernel
theorem dk_Nm_ask_60 : decode mi_Nm_ask.2.1 60 = .ok (.iload_n 2, 1) := by decide +kernel
theorem dk_Nm_ask_61 : decode mi_Nm_ask.2.1 61 = .ok (.putfield 171, 3) := by decide +kernel
theorem dk_Nm_ask_64 : decode mi_Nm_ask.2.1 64 = .ok (.iload_n 3, 1) := by decide +kernel
theorem dk_Nm_ask_65 : decode mi_Nm_ask.2.1 65 = .ok (.ireturn, 1) := by decide +kernel
theorem dk_Nm_ask_66 : decode mi_Nm_ask.2.1 66 = .ok (.aload_n 0, 1) := by decide +kernel
theorem dk_Nm_ask_67 : decode mi_Nm_ask.2.1 67 = .ok (.bipush (-6), 2) := by decide +kernel
theorem dk_Nm_ask_69 : decode mi_Nm_ask.2.1 69 = .ok (.invokevirtual 73, 3) := by decide +kernel
theorem dk_Nm_ask_72 : decode mi_Nm_ask.2.1 72 = .ok (.ireturn, 1) := by decide +kernel
def Nm_ask_j32 (x1 : Int32) (x2 : Int32) (σ : nm_St) : Option (Int32 × nm_St) :=
  (if x1 = (1 : Int32) then
    ((Nm_isWithin x2 (0 : Int32) (9999 : Int32) σ).bind fun q4 =>
    (if q4.1 = 0 then
      ((Nm_refuse (-6 : Int32) q4.2).bind fun q6 =>
      some (q6.1, q6.2))
    else
      (nm_let (nm_pI q4.2 2 9 x2) fun s7 =>
      some ((q4.2.1 2 9), s7))))
  else
    ((Nm_refuse (-6 : Int32) σ).bind fun q3 =>
    some (q3.1, q3.2)))
set_option maxRecDepth 100000 in
set_option maxHeartbeats 4000000 in
theorem r_Nm_ask_j32 (X : nm_X) (F : nm_F) (hF0 : 1 ≤ nm_d F) (x1 : Int32) (x2 : Int32) (σ : nm_St) : Rn X mi_Nm_ask F (nm_Qf X F nm_wI) [(0, .ref 0), (1, .int x1), (2, .int x2)] [] 32 σ (Nm_ask_j32 x1 x2 σ) := by
  unfold Nm_ask_j32
  refine rn_iload_n (pc := 32) 1 dk_Nm_ask_32 rfl rfl ?_
  refine rn_iconst (pc := 33) (1 : Int32) dk_Nm_ask_33 cn_i_1 ?_
  refine rn_icmp_ne (pc := 34) 66 dk_Nm_ask_34 (by decide) (fun c2 => ?_) (fun c2 => ?_)
  · refine rn_aload_n (pc := 66) 0 dk_Nm_ask_66 rfl rfl rfl ?_
    refine rn_bipush (pc := 67) (-6 : Int32) dk_Nm_ask_67 cn_b_m6 ?_
    refine cl_Nm_73 (pc := 69) (As := [.int (-6 : Int32)]) (st := []) rfl (ct_Nm_refuse X (-6 : Int32) σ) (Nat.le_trans (Nat.le_of_ble_eq_true rfl) hF0) rfl rfl (Nat.le_of_ble_eq_true rfl) dk_Nm_ask_69 (fun q3 => ?_)
    exact rn_iret rfl dk_Nm_ask_72
  · refine rn_iload_n (pc := 37) 2 dk_Nm_ask_37 rfl rfl ?_
    refine rn_iconst (pc := 38) (0 : Int32) dk_Nm_ask_38 cn_i_0 ?_
    refine rn_sipush (pc := 39) (9999 : Int32) dk_Nm_ask_39 cn_s_9999 ?_
    refine cl_Nm_144 (pc := 42) (As := [.int x2, .int (0 : Int32), .int (9999 : Int32)]) (st := []) rfl (ct_Nm_isWithin X x2 (0 : Int32) (9999 : Int32) σ) (Nat.le_trans (Nat.le_of_ble_eq_true rfl) hF0) rfl rfl (Nat.le_of_ble_eq_true rfl) dk_Nm_ask_42 (fun q4 => ?_)
    refine rn_if_eq (pc := 45) 66 dk_Nm_ask_45 (by decide) (fun c5 => ?_) (fun c5 => ?_)
    · refine rn_aload_n (pc := 66) 0 dk_Nm_ask_66 rfl rfl rfl ?_
      refine rn_bipush (pc := 67) (-6 : Int32) dk_Nm_ask_67 cn_b_m6 ?_
      refine cl_Nm_73 (pc := 69) (As := [.int (-6 : Int32)]) (st := []) rfl (ct_Nm_refuse X (-6 : Int32) q4.2) (Nat.le_trans (Nat.le_of_ble_eq_true rfl) hF0) rfl rfl (Nat.le_of_ble_eq_true rfl) dk_Nm_ask_69 (fun q6 => ?_)
      exact rn_iret rfl dk_Nm_ask_72
    · refine rn_aload_n (pc := 48) 0 dk_Nm_ask_48 rfl rfl rfl ?_
      refine gf_Nm_18 (pc := 49) rfl dk_Nm_ask_49 ?_
      refine gf_Nm_171 (pc := 52) 2 rfl rfl dk_Nm_ask_52 ?_
      refine rn_istore_n (pc := 55) 3 dk_Nm_ask_55 rfl rfl rfl ?_
      refine rn_aload_n (pc := 56) 0 dk_Nm_ask_56 rfl rfl rfl ?_
      refine gf_Nm_18 (pc := 57) rfl dk_Nm_ask_57 ?_
      refine rn_iload_n (pc := 60) 2 dk_Nm_ask_60 rfl rfl ?_
      refine pf_Nm_171 (pc := 61) 2 rfl rfl dk_Nm_ask_61 ?_
      refine rn_lets (fun s7 => ?_)
      refine rn_iload_n (pc := 64) 3 dk_Nm_ask_64 rfl rfl ?_
      exact rn_iret rfl dk_Nm_ask_65
def Nm_ask (p1 : Int32) (p2 : Int32) (σ : nm_St) : Option (Int32 × nm_St) :=
  (if p1 = 0 then
    ((Nm_isWithin p2 (0 : Int32) (99 : Int32) σ).bind fun q8 =>
    (if q8.1 = 0 then
      Nm_ask_j32 p1 p2 q8.2
    else
      (nm_let (nm_pI q8.2 2 8 p2) fun s10 =>
      some ((q8.2.1 2 8), s10))))
  else
    Nm_ask_j32 p1 p2 σ)
set_option maxRecDepth 100000 in
set_option maxHeartbeats 4000000 in
theorem ct_Nm_ask (X : nm_X) (p1 : Int32) (p2 : Int32) (σ : nm_St) : Ct X mi_Nm_ask 1 nm_wI [.ref 0, .int p1, .int p2] σ (Nm_ask p1 p2 σ) := by
  refine Ct.of (by decide +kernel) rfl (fun F hF0 => ?_)
  unfold Nm_ask
  refine rn_iload_n (pc := 0) 1 dk_Nm_ask_0 rfl rfl ?_
  refine rn_if_ne (pc := 1) 32 dk_Nm_ask_1 (by decide) (fun c1 => ?_) (fun c1 => ?_)
  · exact rn_sub (by rfl) (r_Nm_ask_j32 X F hF0 p1 p2 σ)
  · refine rn_iload_n (pc := 4) 2 dk_Nm_ask_4 rfl rfl ?_
    refine rn_iconst (pc := 5) (0 : Int32) dk_Nm_ask_5 cn_i_0 ?_
    refine rn_bipush (pc := 6) (99 : Int32) dk_Nm_ask_6 cn_b_99 ?_
    refine cl_Nm_144 (pc := 8) (As := [.int p2, .int (0 : Int32), .int (99 : Int32)]) (st := []) rfl (ct_Nm_isWithin X p2 (0 : Int32) (99 : Int32) σ) (Nat.le_trans (Nat.le_of_ble_eq_true rfl) hF0) rfl rfl (Nat.le_of_ble_eq_true rfl) dk_Nm_ask_8 (fun q8 => ?_)
    refine rn_if_eq (pc := 11) 32 dk_Nm_ask_11 (by decide) (fun c9 => ?_) (fun c9 => ?_)
    · exact rn_sub (by rfl) (r_Nm_ask_j32 X F hF0 p1 p2 q8.2)
    · refine rn_aload_n (pc := 14) 0 dk_Nm_ask_14 rfl rfl rfl ?_
      refine gf_Nm_18 (pc := 15) rfl dk_Nm_ask_15 ?_
      refine gf_Nm_168 (pc := 18) 2 rfl rfl dk_Nm_ask_18 ?_
      refine rn_istore_n (pc := 21) 3 dk_Nm_ask_21 rfl rfl rfl ?_
      refine rn_aload_n (pc := 22) 0 dk_Nm_ask_22 rfl rfl rfl ?_
      refine gf_Nm_18 (pc := 23) rfl dk_Nm_ask_23 ?_
      refine rn_iload_n (pc := 26) 2 dk_Nm_ask_26 rfl rfl ?_
      refine pf_Nm_168 (pc := 27) 2 rfl rfl dk_Nm_ask_27 ?_
      refine rn_lets (fun s10 => ?_)
      refine rn_iload_n (pc := 30) 3 dk_Nm_ask_30 rfl rfl ?_
      exact rn_iret rfl dk_Nm_ask_31
theorem dk_Is_aspectOf_0 : decode mi_Is_aspectOf.2.1 0 = .ok (.aload_n 0, 1) := by decide +kernel
theorem dk_Is_aspectOf_1 : decode mi_Is_aspectOf.2.1 1 = .ok (.iload_n 1, 1) := by decide +kernel
theorem dk_Is_aspectOf_2 : decode mi_Is_aspectOf.2.1 2 = .ok (.invokevirtual 59, 3) := by decide +kernel
theorem dk_Is_aspectOf_5 : decode mi_Is_aspectOf.2.1 5 = .ok (.ifCond .ne 5, 3) := by decide +kernel
theorem dk_Is_aspectOf_8 : decode mi_Is_aspectOf.2.1 8 = .ok (.iconst (-1), 1) := by decide +kernel
theorem dk_Is_aspectOf_9 : decode mi_Is_aspectOf.2.1 9 = .ok (.ireturn, 1) := by decide +kernel
theorem dk_Is_aspectOf_10 : decode mi_Is_aspectOf.2.1 10 = .ok (.iload_n 2, 1) := by decide +kernel
theorem dk_Is_aspectOf_11 : decode mi_Is_aspectOf.2.1 11 = .ok (.tableswitch 79 0 5 #[37, 44, 51, 58, 65, 72], 37) := by decide +kernel
theorem dk_Is_aspectOf_48 : decode mi_Is_aspectOf.2.1 48 = .ok (.aload_n 0, 1) := by decide +kernel
theorem dk_Is_aspectOf_49 : decode mi_Is_aspectOf.2.1 49 = .ok (.getfield 9, 3) := by decide +kernel
theorem dk_Is_aspectOf_52 : decode mi_Is_aspectOf.2.1 52 = .ok (.iload_n 1, 1) := by decide +kernel
theorem dk_Is_aspectOf_53 : decode mi_Is_aspectOf.2.1 53 = .ok (.iaload, 1) := by decide +kernel
theorem dk_Is_aspectOf_54 : decode mi_Is_aspectOf.2.1 54 = .ok (.ireturn, 1) := by decide +kernel
theorem dk_Is_aspectOf_55 : decode mi_Is_aspectOf.2.1 55 = .ok (.aload_n 0, 1) := by decide +kernel
theorem dk_Is_aspectOf_56 : decode mi_Is_aspectOf.2.1 56 = .ok (.getfield 15, 3) := by decide +kernel
theorem dk_Is_aspectOf_59 : decode mi_Is_aspectOf.2.1 59 = .ok (.iload_n 1, 1) := by decide +kernel
theorem dk_Is_aspectOf_60 : decode mi_Is_aspectOf.2.1 60 = .ok (.iaload, 1) := by decide +kernel
theorem dk_Is_aspectOf_61 : decode mi_Is_aspectOf.2.1 61 = .ok (.ireturn, 1) := by decide +kernel
theorem dk_Is_aspectOf_62 : decode mi_Is_aspectOf.2.1 62 = .ok (.aload_n 0, 1) := by decide +kernel
theorem dk_Is_aspectOf_63 : decode mi_Is_aspectOf.2.1 63 = .ok (.getfield 18, 3) := by decide +kernel
theorem dk_Is_aspectOf_66 : decode mi_Is_aspectOf.2.1 66 = .ok (.iload_n 1, 1) := by decide +kernel
theorem dk_Is_aspectOf_67 : decode mi_Is_aspectOf.2.1 67 = .ok (.iaload, 1) := by decide +kernel
theorem dk_Is_aspectOf_68 : decode mi_Is_aspectOf.2.1 68 = .ok (.ireturn, 1) := by decide +kernel
theorem dk_Is_aspectOf_69 : decode mi_Is_aspectOf.2.1 69 = .ok (.aload_n 0, 1) := by decide +kernel
theorem dk_Is_aspectOf_70 : decode mi_Is_aspectOf.2.1 70 = .ok (.getfield 21, 3) := by decide +kernel
theorem dk_Is_aspectOf_73 : decode mi_Is_aspectOf.2.1 73 = .ok (.iload_n 1, 1) := by decide +kernel
theorem dk_Is_aspectOf_74 : decode mi_Is_aspectOf.2.1 74 = .ok (.iaload, 1) := by decide +kernel
theorem dk_Is_aspectOf_75 : decode mi_Is_aspectOf.2.1 75 = .ok (.ireturn, 1) := by decide +kernel
theorem dk_Is_aspectOf_76 : decode mi_Is_aspectOf.2.1 76 = .ok (.aload_n 0, 1) := by decide +kernel
theorem dk_Is_aspectOf_77 : decode mi_Is_aspectOf.2.1 77 = .ok (.getfield 24, 3) := by decide +kernel
theorem dk_Is_aspectOf_80 : decode mi_Is_aspectOf.2.1 80 = .ok (.iload_n 1, 1) := by decide +kernel
theorem dk_Is_aspectOf_81 : decode mi_Is_aspectOf.2.1 81 = .ok (.iaload, 1) := by decide +kernel
theorem dk_Is_aspectOf_82 : decode mi_Is_aspectOf.2.1 82 = .ok (.ireturn, 1) := by decide +kernel
theorem dk_Is_aspectOf_83 : decode mi_Is_aspectOf.2.1 83 = .ok (.aload_n 0, 1) := by decide +kernel
theorem dk_Is_aspectOf_84 : decode mi_Is_aspectOf.2.1 84 = .ok (.getfield 27, 3) := by decide +kernel
theorem dk_Is_aspectOf_87 : decode mi_Is_aspectOf.2.1 87 = .ok (.iload_n 1, 1) := by decide +kernel
theorem dk_Is_aspectOf_88 : decode mi_Is_aspectOf.2.1 88 = .ok (.iaload, 1) := by decide +kernel
theorem dk_Is_aspectOf_89 : decode mi_Is_aspectOf.2.1 89 = .ok (.ireturn, 1) := by decide +kernel
theorem dk_Is_aspectOf_90 : decode mi_Is_aspectOf.2.1 90 = .ok (.aload_n 0, 1) := by decide +kernel
theorem dk_Is_aspectOf_91 : decode mi_Is_aspectOf.2.1 91 = .ok (.iload_n 1, 1) := by decide +kernel
theorem dk_Is_aspectOf_92 : decode mi_Is_aspectOf.2.1 92 = .ok (.invokevirtual 66, 3) := by decide +kernel
theorem dk_Is_aspectOf_95 : decode mi_Is_aspectOf.2.1 95 = .ok (.ireturn, 1) := by decide +kernel
def Is_aspectOf (o : Nat) (p1 : Int32) (p2 : Int32) (σ : nm_St) : Option (Int32 × nm_St) :=
  ((Is_isMaker o p1 σ).bind fun q1 =>
  (if q1.1 = 0 then
    some ((-1 : Int32), q1.2)
  else
    (if p2 = (0 : Int32) then
      (nm_g (nm_in p1 8) (
      some ((q1.2.1 (o + 1) p1.toNatClampNeg), q1.2)))
    else
    (if p2 = (1 : Int32) then
      (nm_g (nm_in p1 8) (
      some ((q1.2.1 (o + 2) p1.toNatClampNeg), q1.2)))
    else
    (if p2 = (2 : Int32) then
      (nm_g (nm_in p1 8) (
      some ((q1.2.1 (o + 3) p1.toNatClampNeg), q1.2)))
    else
    (if p2 = (3 : Int32) then
      (nm_g (nm_in p1 8) (
      some ((q1.2.1 (o + 4) p1.toNatClampNeg), q1.2)))
    else
    (if p2 = (4 : Int32) then
      (nm_g (nm_in p1 8) (
      some ((q1.2.1 (o + 5) p1.toNatClampNeg), q1.2)))
    else
    (if p2 = (5 : Int32) then
      (nm_g (nm_in p1 8) (
      some ((q1.2.1 (o + 6) p1.toNatClampNeg), q1.2)))
    else
      ((Is_priceOf o p1 q1.2).bind fun q10 =>
      some (q10.1, q10.2))))))))))
set_option maxRecDepth 100000 in
set_option maxHeartbeats 4000000 in
theorem ct_Is_aspectOf (X : nm_X) (o : Nat) (ho : nm_isl o = true) (p1 : Int32) (p2 : Int32) (σ : nm_St) : Ct X mi_Is_aspectOf 3 nm_wI [.ref o, .int p1, .int p2] σ (Is_aspectOf o p1 p2 σ) := by
  refine Ct.of (by decide +kernel) rfl (fun F hF0 => ?_)
  unfold Is_aspectOf
  refine rn_aload_n (pc := 0) 0 dk_Is_aspectOf_0 rfl rfl (nm_rok_isl ho) ?_
  refine rn_iload_n (pc := 1) 1 dk_Is_aspectOf_1 rfl rfl ?_
  refine cl_Is_59 (pc := 2) (As := [.int p1]) (st := []) o ho rfl (ct_Is_isMaker X o ho p1 σ) (Nat.le_trans (Nat.le_of_ble_eq_true rfl) hF0) rfl rfl (Nat.le_of_ble_eq_true rfl) dk_Is_aspectOf_2 (fun q1 => ?_)
  refine rn_if_ne (pc := 5) 10 dk_Is_aspectOf_5 (by decide) (fun c2 => ?_) (fun c2 => ?_)
  · refine rn_iload_n (pc := 10) 2 dk_Is_aspectOf_10 rfl rfl ?_
    refine rn_tcase (pc := 11) 0 (0 : Int32) 48 dk_Is_aspectOf_11 (by decide) (by decide) rfl (by decide) (fun c3_0 => ?_) (fun c3_0 => ?_)
    · refine rn_aload_n (pc := 48) 0 dk_Is_aspectOf_48 rfl rfl (nm_rok_isl ho) ?_
      refine gf_Is_9 (pc := 49) o ho rfl dk_Is_aspectOf_49 ?_
      refine rn_iload_n (pc := 52) 1 dk_Is_aspectOf_52 rfl rfl ?_
      refine rn_iaload (pc := 53) (nm_i1 ho) dk_Is_aspectOf_53 (fun g4 => ?_)
      exact rn_iret rfl dk_Is_aspectOf_54
    refine rn_tcase (pc := 11) 1 (1 : Int32) 55 dk_Is_aspectOf_11 (by decide) (by decide) rfl (by decide) (fun c3_1 => ?_) (fun c3_1 => ?_)
    · refine rn_aload_n (pc := 55) 0 dk_Is_aspectOf_55 rfl rfl (nm_rok_isl ho) ?_
      refine gf_Is_15 (pc := 56) o ho rfl dk_Is_aspectOf_56 ?_
      refine rn_iload_n (pc := 59) 1 dk_Is_aspectOf_59 rfl rfl ?_
      refine rn_iaload (pc := 60) (nm_i2 ho) dk_Is_aspectOf_60 (fun g5 => ?_)
      exact rn_iret rfl dk_Is_aspectOf_61
    refine rn_tcase (pc := 11) 2 (2 : Int32) 62 dk_Is_aspectOf_11 (by decide) (by decide) rfl (by decide) (fun c3_2 => ?_) (fun c3_2 => ?_)
    · refine rn_aload_n (pc := 62) 0 dk_Is_aspectOf_62 rfl rfl (nm_rok_isl ho) ?_
      refine gf_Is_18 (pc := 63) o ho rfl dk_Is_aspectOf_63 ?_
      refine rn_iload_n (pc := 66) 1 dk_Is_aspectOf_66 rfl rfl ?_
      refine rn_iaload (pc := 67) (nm_i3 ho) dk_Is_aspectOf_67 (fun g6 => ?_)
      exact rn_iret rfl dk_Is_aspectOf_68
    refine rn_tcase (pc := 11) 3 (3 : Int32) 69 dk_Is_aspectOf_11 (by decide) (by decide) rfl (by decide) (fun c3_3 => ?_) (fun c3_3 => ?_)
    · refine rn_aload_n (pc := 69) 0 dk_Is_aspectOf_69 rfl rfl (nm_rok_isl ho) ?_
      refine gf_Is_21 (pc := 70) o ho rfl dk_Is_aspectOf_70 ?_
      refine rn_iload_n (pc := 73) 1 dk_Is_aspectOf_73 rfl rfl ?_
      refine rn_iaload (pc := 74) (nm_i4 ho) dk_Is_aspectOf_74 (fun g7 => ?_)
      exact rn_iret rfl dk_Is_aspectOf_75
    refine rn_tcase (pc := 11) 4 (4 : Int32) 76 dk_Is_aspectOf_11 (by decide) (by decide) rfl (by decide) (fun c3_4 => ?_) (fun c3_4 => ?_)
    · refine rn_aload_n (pc := 76) 0 dk_Is_aspectOf_76 rfl rfl (nm_rok_isl ho) ?_
      refine gf_Is_24 (pc := 77) o ho rfl dk_Is_aspectOf_77 ?_
      refine rn_iload_n (pc := 80) 1 dk_Is_aspectOf_80 rfl rfl ?_
      refine rn_iaload (pc := 81) (nm_i5 ho) dk_Is_aspectOf_81 (fun g8 => ?_)
      exact rn_iret rfl dk_Is_aspectOf_82
    refine rn_tcase (pc := 11) 5 (5 : Int32) 83 dk_Is_aspectOf_11 (by decide) (by decide) rfl (by decide) (fun c3_5 => ?_) (fun c3_5 => ?_)
    · refine rn_aload_n (pc := 83) 0 dk_Is_aspectOf_83 rfl rfl (nm_rok_isl ho) ?_
      refine gf_Is_27 (pc := 84) o ho rfl dk_Is_aspectOf_84 ?_
      refine rn_iload_n (pc := 87) 1 dk_Is_aspectOf_87 rfl rfl ?_
      refine rn_iaload (pc := 88) (nm_i6 ho) dk_Is_aspectOf_88 (fun g9 => ?_)
      exact rn_iret rfl dk_Is_aspectOf_89
    refine rn_tdef (pc := 11) [(0 : Int32), (1 : Int32), (2 : Int32), (3 : Int32), (4 : Int32), (5 : Int32)] 90 dk_Is_aspectOf_11 (by decide) (by decide) (List.forall_mem_cons.mpr ⟨c3_0, (List.forall_mem_cons.mpr ⟨c3_1, (List.forall_mem_cons.mpr ⟨c3_2, (List.forall_mem_cons.mpr ⟨c3_3, (List.forall_mem_cons.mpr ⟨c3_4, (List.forall_mem_cons.mpr ⟨c3_5, (fun _ h => absurd h List.not_mem_nil)⟩)⟩)⟩)⟩)⟩)⟩) (by decide) ?_
    refine rn_aload_n (pc := 90) 0 dk_Is_aspectOf_90 rfl rfl (nm_rok_isl ho) ?_
    refine rn_iload_n (pc := 91) 1 dk_Is_aspectOf_91 rfl rfl ?_
    refine cl_Is_66 (pc := 92) (As := [.int p1]) (st := []) o ho rfl (ct_Is_priceOf X o ho p1 q1.2) (Nat.le_trans (Nat.le_of_ble_eq_true rfl) hF0) rfl rfl (Nat.le_of_ble_eq_true rfl) dk_Is_aspectOf_92 (fun q10 => ?_)
    exact rn_iret rfl dk_Is_aspectOf_95
  · refine rn_iconst (pc := 8) (-1 : Int32) dk_Is_aspectOf_8 cn_i_m1 ?_
    exact rn_iret rfl dk_Is_aspectOf_9
theorem dk_Nm_makerOf_0 : decode mi_Nm_makerOf.2.1 0 = .ok (.aload_n 0, 1) := by decide +kernel
theorem dk_Nm_makerOf_1 : decode mi_Nm_makerOf.2.1 1 = .ok (.getfield 18, 3) := by decide +kernel
theorem dk_Nm_makerOf_4 : decode mi_Nm_makerOf.2.1 4 = .ok (.iload_n 1, 1) := by decide +kernel
theorem dk_Nm_makerOf_5 : decode mi_Nm_makerOf.2.1 5 = .ok (.invokevirtual 107, 3) := by decide +kernel
theorem dk_Nm_makerOf_8 : decode mi_Nm_makerOf.2.1 8 = .ok (.ifCond .eq 13, 3) := by decide +kernel
theorem dk_Nm_makerOf_11 : decode mi_Nm_makerOf.2.1 11 = .ok (.iload_n 2, 1) := by decide +kernel
theorem dk_Nm_makerOf_12 : decode mi_Nm_makerOf.2.1 12 = .ok (.iconst 0, 1) := by decide +kernel
theorem dk_Nm_makerOf_13 : decode mi_Nm_makerOf.2.1 13 = .ok (.bipush 6, 2) := by decide +kernel
theorem dk_Nm_makerOf_15 : decode mi_Nm_makerOf.2.1 15 = .ok (.invokestatic 144, 3) := by decide +kernel
theorem dk_Nm_makerOf_18 : decode mi_Nm_makerOf.2.1 18 = .ok (.ifCond .ne 10, 3) := by decide +kernel
theorem dk_Nm_makerOf_21 : decode mi_Nm_makerOf.2.1 21 = .ok (.aload_n 0, 1) := by decide +kernel
theorem dk_Nm_makerOf_22 : decode mi_Nm_makerOf.2.1 22 = .ok (.bipush (-5), 2) := by decide +kernel
theorem dk_Nm_makerOf_24 : decode mi_Nm_makerOf.2.1 24 = .ok (.invokevirtual 73, 3) := by decide +kernel
theorem dk_Nm_makerOf_27 : decode mi_Nm_makerOf.2.1 27 = .ok (.ireturn, 1) := by decide +kernel
theorem dk_Nm_makerOf_28 : decode mi_Nm_makerOf.2.1 28 = .ok (.aload_n 0, 1) := by decide +kernel
theorem dk_Nm_makerOf_29 : decode mi_Nm_makerOf.2.1 29 = .ok (.getfield 18, 3) := by decide +kernel
theorem dk_Nm_makerOf_32 : decode mi_Nm_makerOf.2.1 32 = .ok (.iload_n 1, 1) := by decide +kernel
theorem dk_Nm_makerOf_33 : decode mi_Nm_makerOf.2.1 33 = .ok (.iload_n 2, 1) := by decide +kernel
theorem dk_Nm_makerOf_34 : decode mi_Nm_makerOf.2.1 34 = .ok (.invokevirtual 174, 3) := by decide +kernel
theorem dk_Nm_makerOf_37 : decode mi_Nm_makerOf.2.1 37 = .ok (.ireturn, 1) := by decide +kernel
def Nm_makerOf (p1 : Int32) (p2 : Int32) (σ : nm_St) : Option (Int32 × nm_St) :=
  ((Is_isMaker 2 p1 σ).bind fun q1 =>
  (if q1.1 = 0 then
    ((Nm_refuse (-5 : Int32) q1.2).bind fun q3 =>
    some (q3.1, q3.2))
  else
    ((Nm_isWithin p2 (0 : Int32) (6 : Int32) q1.2).bind fun q4 =>
    (if q4.1 = 0 then
      ((Nm_refuse (-5 : Int32) q4.2).bind fun q7 =>
      some (q7.1, q7.2))
    else
      ((Is_aspectOf 2 p1 p2 q4.2).bind fun q6 =>
      some (q6.1, q6.2))))))
set_option maxRecDepth 100000 in
set_option maxHeartbeats 4000000 in
theorem ct_Nm_makerOf (X : nm_X) (p1 : Int32) (p2 : Int32) (σ : nm_St) : Ct X mi_Nm_makerOf 4 nm_wI [.ref 0, .int p1, .int p2] σ (Nm_makerOf p1 p2 σ) := by
  refine Ct.of (by decide +kernel) rfl (fun F hF0 => ?_)
  unfold Nm_makerOf
  refine rn_aload_n (pc := 0) 0 dk_Nm_makerOf_0 rfl rfl rfl ?_
  refine gf_Nm_18 (pc := 1) rfl dk_Nm_makerOf_1 ?_
  refine rn_iload_n (pc := 4) 1 dk_Nm_makerOf_4 rfl rfl ?_
  refine cl_Nm_107 (pc := 5) (As := [.int p1]) (st := []) 2 rfl rfl (ct_Is_isMaker X 2 rfl p1 σ) (Nat.le_trans (Nat.le_of_ble_eq_true rfl) hF0) rfl rfl (Nat.le_of_ble_eq_true rfl) dk_Nm_makerOf_5 (fun q1 => ?_)
  refine rn_if_eq (pc := 8) 21 dk_Nm_makerOf_8 (by decide) (fun c2 => ?_) (fun c2 => ?_)
  · refine rn_aload_n (pc := 21) 0 dk_Nm_makerOf_21 rfl rfl rfl ?_
    refine rn_bipush (pc := 22) (-5 : Int32) dk_Nm_makerOf_22 cn_b_m5 ?_
    refine cl_Nm_73 (pc := 24) (As := [.int (-5 : Int32)]) (st := []) rfl (ct_Nm_refuse X (-5 : Int32) q1.2) (Nat.le_trans (Nat.le_of_ble_eq_true rfl) hF0) rfl rfl (Nat.le_of_ble_eq_true rfl) dk_Nm_makerOf_24 (fun q3 => ?_)
    exact rn_iret rfl dk_Nm_makerOf_27
  · refine rn_iload_n (pc := 11) 2 dk_Nm_makerOf_11 rfl rfl ?_
    refine rn_iconst (pc := 12) (0 : Int32) dk_Nm_makerOf_12 cn_i_0 ?_
    refine rn_bipush (pc := 13) (6 : Int32) dk_Nm_makerOf_13 cn_b_6 ?_
    refine cl_Nm_144 (pc := 15) (As := [.int p2, .int (0 : Int32), .int (6 : Int32)]) (st := []) rfl (ct_Nm_isWithin X p2 (0 : Int32) (6 : Int32) q1.2) (Nat.le_trans (Nat.le_of_ble_eq_true rfl) hF0) rfl rfl (Nat.le_of_ble_eq_true rfl) dk_Nm_makerOf_15 (fun q4 => ?_)
    refine rn_if_ne (pc := 18) 28 dk_Nm_makerOf_18 (by decide) (fun c5 => ?_) (fun c5 => ?_)
    · refine rn_aload_n (pc := 28) 0 dk_Nm_makerOf_28 rfl rfl rfl ?_
      refine gf_Nm_18 (pc := 29) rfl dk_Nm_makerOf_29 ?_
      refine rn_iload_n (pc := 32) 1 dk_Nm_makerOf_32 rfl rfl ?_
      refine rn_iload_n (pc := 33) 2 dk_Nm_makerOf_33 rfl rfl ?_
      refine cl_Nm_174 (pc := 34) (As := [.int p1, .int p2]) (st := []) 2 rfl rfl (ct_Is_aspectOf X 2 rfl p1 p2 q4.2) (Nat.le_trans (Nat.le_of_ble_eq_true rfl) hF0) rfl rfl (Nat.le_of_ble_eq_true rfl) dk_Nm_makerOf_34 (fun q6 => ?_)
      exact rn_iret rfl dk_Nm_makerOf_37
    · refine rn_aload_n (pc := 21) 0 dk_Nm_makerOf_21 rfl rfl rfl ?_
      refine rn_bipush (pc := 22) (-5 : Int32) dk_Nm_makerOf_22 cn_b_m5 ?_
      refine cl_Nm_73 (pc := 24) (As := [.int (-5 : Int32)]) (st := []) rfl (ct_Nm_refuse X (-5 : Int32) q4.2) (Nat.le_trans (Nat.le_of_ble_eq_true rfl) hF0) rfl rfl (Nat.le_of_ble_eq_true rfl) dk_Nm_makerOf_24 (fun q7 => ?_)
      exact rn_iret rfl dk_Nm_makerOf_27
theorem dk_Is_become_0 : decode mi_Is_become.2.1 0 = .ok (.aload_n 1, 1) := by decide +kernel
theorem dk_Is_become_1 : decode mi_Is_become.2.1 1 = .ok (.getfield 9, 3) := by decide +kernel
theorem dk_Is_become_4 : decode mi_Is_become.2.1 4 = .ok (.iconst 0, 1) := by decide +kernel
theorem dk_Is_become_5 : decode mi_Is_become.2.1 5 = .ok (.aload_n 0, 1) := by decide +kernel
theorem dk_Is_become_6 : decode mi_Is_become.2.1 6 = .ok (.getfield 9, 3) := by decide +kernel
theorem dk_Is_become_9 : decode mi_Is_become.2.1 9 = .ok (.iconst 0, 1) := by decide +kernel
theorem dk_Is_become_10 : decode mi_Is_become.2.1 10 = .ok (.bipush 8, 2) := by decide +kernel
theorem dk_Is_become_12 : decode mi_Is_become.2.1 12 = .ok (.invokestatic 49, 3) := by decide +kernel
theorem dk_Is_become_15 : decode mi_Is_become.2.1 15 = .ok (.aload_n 1, 1) := by decide +kernel
theorem dk_Is_become_16 : decode mi_Is_become.2.1 16 = .ok (.getfield 15, 3) := by decide +kernel
theorem dk_Is_become_19 : decode mi_Is_become.2.1 19 = .ok (.iconst 0, 1) := by decide +kernel
theorem dk_Is_become_20 : decode mi_Is_become.2.1 20 = .ok (.aload_n 0, 1) := by decide +kernel
theorem dk_Is_become_21 : decode mi_Is_become.2.1 21 = .ok (.getfield 15, 3) := by decide +kernel
theorem dk_Is_become_24 : decode mi_Is_become.2.1 24 = .ok (.iconst 0, 1) := by decide +kernel
theorem dk_Is_become_25 : decode mi_Is_become.2.1 25 = .ok (.bipush 8, 2) := by decide +kernel
theorem dk_Is_become_27 : decode mi_Is_become.2.1 27 = .ok (.invokestatic 49, 3) := by decide +kernel
theorem dk_Is_become_30 : decode mi_Is_become.2.1 30 = .ok (.aload_n 1, 1) := by decide +kernel
theorem dk_Is_become_31 : decode mi_Is_become.2.1 31 = .ok (.getfield 18, 3) := by decide +kernel
theorem dk_Is_become_34 : decode mi_Is_become.2.1 34 = .ok (.iconst 0, 1) := by decide +kernel
theorem dk_Is_become_35 : decode mi_Is_become.2.1 35 = .ok (.aload_n 0, 1) := by decide +kernel
theorem dk_Is_become_36 : decode mi_Is_become.2.1 36 = .ok (.getfield 18, 3) := by decide +kernel
theorem dk_Is_become_39 : decode mi_Is_become.2.1 39 = .ok (.iconst 0, 1) := by decide +kernel
theorem dk_Is_become_40 : decode mi_Is_become.2.1 40 = .ok (.bipush 8, 2) := by decide +kernel
theorem dk_Is_become_42 : decode mi_Is_become.2.1 42 = .ok (.invokestatic 49, 3) := by decide +kernel
theorem dk_Is_become_45 : decode mi_Is_become.2.1 45 = .ok (.aload_n 1, 1) := by decide +kernel
theorem dk_Is_become_46 : decode mi_Is_become.2.1 46 = .ok (.getfield 21, 3) := by decide +kernel
theorem dk_Is_become_49 : decode mi_Is_become.2.1 49 = .ok (.iconst 0, 1) := by decide +kernel
theorem dk_Is_become_50 : decode mi_Is_become.2.1 50 = .ok (.aload_n 0, 1) := by decide +kernel
theorem dk_Is_become_51 : decode mi_Is_become.2.1 51 = .ok (.getfield 21, 3) := by decide +kernel
theorem dk_Is_become_54 : decode mi_Is_become.2.1 54 = .ok (.iconst 0, 1) := by decide +kernel
theorem dk_Is_become_55 : decode mi_Is_become.2.1 55 = .ok (.bipush 8, 2) := by decide +kernel
theorem dk_Is_become_57 : decode mi_Is_become.2.1 57 = .ok (.invokestatic 49, 3) := by decide +kernel
theorem dk_Is_become_60 : decode mi_Is_become.2.1 60 = .ok (.aload_n 1, 1) := by decide +kernel
theorem dk_Is_become_61 : decode mi_Is_become.2.1 61 = .ok (.getfield 24, 3) := by decide +kernel
theorem dk_Is_become_64 : decode mi_Is_become.2.1 64 = .ok (.iconst 0, 1) := by decide +kernel
theorem dk_Is_become_65 : decode mi_Is_become.2.1 65 = .ok (.aload_n 0, 1) := by decide +kernel
theorem dk_Is_become_66 : decode mi_Is_become.2.1 66 = .ok (.getfield 24, 3) := by decide +kernel
theorem dk_Is_become_69 : decode mi_Is_become.2.1 69 = .ok (.iconst 0, 1) := by decide +kernel
theorem dk_Is_become_70 : decode mi_Is_become.2.1 70 = .ok (.bipush 8, 2) := by decide +kernel
theorem dk_Is_become_72 : decode mi_Is_become.2.1 72 = .ok (.invokestatic 49, 3) := by decide +kernel
theorem dk_Is_become_75 : decode mi_Is_become.2.1 75 = .ok (.aload_n 1, 1) := by decide +kernel
theorem dk_Is_become_76 : decode mi_Is_become.2.1 76 = .ok (.getfield 27, 3) := by decide +kernel
theorem dk_Is_become_79 : decode mi_Is_become.2.1 79 = .ok (.iconst 0, 1) := by decide +kernel
theorem dk_Is_become_80 : decode mi_Is_become.2.1 80 = .ok (.aload_n 0, 1) := by decide +kernel
theorem dk_Is_become_81 : decode mi_Is_become.2.1 81 = .ok (.getfield 27, 3) := by decide +kernel
theorem dk_Is_become_84 : decode mi_Is_become.2.1 84 = .ok (.iconst 0, 1) := by decide +kernel
theorem dk_Is_become_85 : decode mi_Is_become.2.1 85 = .ok (.bipush 8, 2) := by decide +kernel
theorem dk_Is_become_87 : decode mi_Is_become.2.1 87 = .ok (.invokestatic 49, 3) := by decide +kernel
theorem dk_Is_become_90 : decode mi_Is_become.2.1 90 = .ok (.aload_n 0, 1) := by decide +kernel
theorem dk_Is_become_91 : decode mi_Is_become.2.1 91 = .ok (.aload_n 1, 1) := by decide +kernel
theorem dk_Is_become_92 : decode mi_Is_become.2.1 92 = .ok (.getfield 30, 3) := by decide +kernel
theorem dk_Is_become_95 : decode mi_Is_become.2.1 95 = .ok (.putfield 30, 3) := by decide +kernel
theorem dk_Is_become_98 : decode mi_Is_become.2.1 98 = .ok (.aload_n 0, 1) := by decide +kernel
theorem dk_Is_become_99 : decode mi_Is_become.2.1 99 = .ok (.aload_n 1, 1) := by decide +kernel
theorem dk_Is_become_100 : decode mi_Is_become.2.1 100 = .ok (.getfield 34, 3) := by decide +kernel
theorem dk_Is_become_103 : decode mi_Is_become.2.1 103 = .ok (.putfield 34, 3) := by decide +kernel
theorem dk_Is_become_106 : decode mi_Is_become.2.1 106 = .ok (.aload_n 0, 1) := by decide +kernel
theorem dk_Is_become_107 : decode mi_Is_become.2.1 107 = .ok (.aload_n 1, 1) := by decide +kernel
theorem dk_Is_become_108 : decode mi_Is_become.2.1 108 = .ok (.getfield 37, 3) := by decide +kernel
theorem dk_Is_become_111 : decode mi_Is_become.2.1 111 = .ok (.putfield 37, 3) := by decide +kernel
theorem dk_Is_become_114 : decode mi_Is_become.2.1 114 = .ok (.aload_n 0, 1) := by decide +kernel
theorem dk_Is_become_115 : decode mi_Is_become.2.1 115 = .ok (.aload_n 1, 1) := by decide +kernel
theorem dk_Is_become_116 : decode mi_Is_become.2.1 116 = .ok (.getfield 40, 3) := by decide +kernel
theorem dk_Is_become_119 : decode mi_Is_become.2.1 119 = .ok (.putfield 40, 3) := by decide +kernel
theorem dk_Is_become_122 : decode mi_Is_become.2.1 122 = .ok (.aload_n 0, 1) := by decide +kernel
theorem dk_Is_become_123 : decode mi_Is_become.2.1 123 = .ok (.aload_n 1, 1) := by decide +kernel
theorem dk_Is_become_124 : decode mi_Is_become.2.1 124 = .ok (.getfield 43, 3) := by decide +kernel
theorem dk_Is_become_127 : decode mi_Is_become.2.1 127 = .ok (.putfield 43, 3) := by decide +kernel
theorem dk_Is_become_130 : decode mi_Is_become.2.1 130 = .ok (.aload_n 0, 1) := by decide +kernel
theorem dk_Is_become_131 : decode mi_Is_become.2.1 131 = .ok (.aload_n 1, 1) := by decide +kernel
theorem dk_Is_become_132 : decode mi_Is_become.2.1 132 = .ok (.getfield 46, 3) := by decide +kernel
theorem dk_Is_become_135 : decode mi_Is_become.2.1 135 = .ok (.putfield 46, 3) := by decide +kernel
theorem dk_Is_become_138 : decode mi_Is_become.2.1 138 = .ok (.return_, 1) := by decide +kernel
def Is_become (o : Nat) (o1 : Nat) (σ : nm_St) : Option (Unit × nm_St) :=
  (nm_g (nm_cg (0 : Int32) (0 : Int32) (8 : Int32) 8 8) (
  (nm_let (nm_cpI σ (o1 + 1) (0 : Int32).toNatClampNeg (o + 1) (0 : Int32).toNatClampNeg (8 : Int32).toNatClampNeg) fun s1 =>
  (nm_g (nm_cg (0 : Int32) (0 : Int32) (8 : Int32) 8 8) (
  (nm_let (nm_cpI s1 (o1 + 2) (0 : Int32).toNatClampNeg (o + 2) (0 : Int32).toNatClampNeg (8 : Int32).toNatClampNeg) fun s2 =>
  (nm_g (nm_cg (0 : Int32) (0 : Int32) (8 : Int32) 8 8) (
  (nm_let (nm_cpI s2 (o1 + 3) (0 : Int32).toNatClampNeg (o + 3) (0 : Int32).toNatClampNeg (8 : Int32).toNatClampNeg) fun s3 =>
  (nm_g (nm_cg (0 : Int32) (0 : Int32) (8 : Int32) 8 8) (
  (nm_let (nm_cpI s3 (o1 + 4) (0 : Int32).toNatClampNeg (o + 4) (0 : Int32).toNatClampNeg (8 : Int32).toNatClampNeg) fun s4 =>
  (nm_g (nm_cg (0 : Int32) (0 : Int32) (8 : Int32) 8 8) (
  (nm_let (nm_cpI s4 (o1 + 5) (0 : Int32).toNatClampNeg (o + 5) (0 : Int32).toNatClampNeg (8 : Int32).toNatClampNeg) fun s5 =>
  (nm_g (nm_cg (0 : Int32) (0 : Int32) (8 : Int32) 8 8) (
  (nm_let (nm_cpI s5 (o1 + 6) (0 : Int32).toNatClampNeg (o + 6) (0 : Int32).toNatClampNeg (8 : Int32).toNatClampNeg) fun s6 =>
  (nm_let (nm_pI s6 o 6 (s6.1 o1 6)) fun s7 =>
  (nm_let (nm_pI s7 o 7 (s7.1 o1 7)) fun s8 =>
  (nm_let (nm_pI s8 o 8 (s8.1 o1 8)) fun s9 =>
  (nm_let (nm_pI s9 o 9 (s9.1 o1 9)) fun s10 =>
  (nm_let (nm_pI s10 o 10 (s10.1 o1 10)) fun s11 =>
  (nm_let (nm_pI s11 o 11 (s11.1 o1 11)) fun s12 =>
  some ((), s12)))))))))))))))))))))))))
set_option maxRecDepth 100000 in
set_option maxHeartbeats 4000000 in
theorem ct_Is_become (X : nm_X) (o : Nat) (ho : nm_isl o = true) (o1 : Nat) (ho1 : nm_isl o1 = true) (σ : nm_St) : Ct X mi_Is_become 1 nm_wV [.ref o, .ref o1] σ (Is_become o o1 σ) := by
  refine Ct.of (by decide +kernel) rfl (fun F hF0 => ?_)
  unfold Is_become
  refine rn_aload_n (pc := 0) 1 dk_Is_become_0 rfl rfl (nm_rok_isl ho1) ?_
  refine gf_Is_9 (pc := 1) o1 ho1 rfl dk_Is_become_1 ?_
  refine rn_iconst (pc := 4) (0 : Int32) dk_Is_become_4 cn_i_0 ?_
  refine rn_aload_n (pc := 5) 0 dk_Is_become_5 rfl rfl (nm_rok_isl ho) ?_
  refine gf_Is_9 (pc := 6) o ho rfl dk_Is_become_6 ?_
  refine rn_iconst (pc := 9) (0 : Int32) dk_Is_become_9 cn_i_0 ?_
  refine rn_bipush (pc := 10) (8 : Int32) dk_Is_become_10 cn_b_8 ?_
  refine rn_acopyI (pc := 12) (nm_i1 ho1) (nm_i1 ho) (Nat.le_trans (Nat.le_of_ble_eq_true rfl) hF0) (Nat.le_of_ble_eq_true rfl) wd_529 dk_Is_become_12 ?_
  refine rn_lets (fun s1 => ?_)
  refine rn_aload_n (pc := 15) 1 dk_Is_become_15 rfl rfl (nm_rok_isl ho1) ?_
  refine gf_Is_15 (pc := 16) o1 ho1 rfl dk_Is_become_16 ?_
  refine rn_iconst (pc := 19) (0 : Int32) dk_Is_become_19 cn_i_0 ?_
  refine rn_aload_n (pc := 20) 0 dk_Is_become_20 rfl rfl (nm_rok_isl ho) ?_
  refine gf_Is_15 (pc := 21) o ho rfl dk_Is_become_21 ?_
  refine rn_iconst (pc := 24) (0 : Int32) dk_Is_become_24 cn_i_0 ?_
  refine rn_bipush (pc := 25) (8 : Int32) dk_Is_become_25 cn_b_8 ?_
  refine rn_acopyI (pc := 27) (nm_i2 ho1) (nm_i2 ho) (Nat.le_trans (Nat.le_of_ble_eq_true rfl) hF0) (Nat.le_of_ble_eq_true rfl) wd_529 dk_Is_become_27 ?_
  refine rn_lets (fun s2 => ?_)
  refine rn_aload_n (pc := 30) 1 dk_Is_become_30 rfl rfl (nm_rok_isl ho1) ?_
  refine gf_Is_18 (pc := 31) o1 ho1 rfl dk_Is_become_31 ?_
  refine rn_iconst (pc := 34) (0 : Int32) dk_Is_become_34 cn_i_0 ?_
  refine rn_aload_n (pc := 35) 0 dk_Is_become_35 rfl rfl (nm_rok_isl ho) ?_
  refine gf_Is_18 (pc := 36) o ho rfl dk_Is_become_36 ?_
  refine rn_iconst (pc := 39) (0 : Int32) dk_Is_become_39 cn_i_0 ?_
  refine rn_bipush (pc := 40) (8 : Int32) dk_Is_become_40 cn_b_8 ?_
  refine rn_acopyI (pc := 42) (nm_i3 ho1) (nm_i3 ho) (Nat.le_trans (Nat.le_of_ble_eq_true rfl) hF0) (Nat.le_of_ble_eq_true rfl) wd_529 dk_Is_become_42 ?_
  refine rn_lets (fun s3 => ?_)
  refine rn_aload_n (pc := 45) 1 dk_Is_become_45 rfl rfl (nm_rok_isl ho1) ?_
  refine gf_Is_21 (pc := 46) o1 ho1 rfl dk_Is_become_46 ?_
  refine rn_iconst (pc := 49) (0 : Int32) dk_Is_become_49 cn_i_0 ?_
  refine rn_aload_n (pc := 50) 0 dk_Is_become_50 rfl rfl (nm_rok_isl ho) ?_
  refine gf_Is_21 (pc := 51) o ho rfl dk_Is_become_51 ?_
  refine rn_iconst (pc := 54) (0 : Int32) dk_Is_become_54 cn_i_0 ?_
  refine rn_bipush (pc := 55) (8 : Int32) dk_Is_become_55 cn_b_8 ?_
  refine rn_acopyI (pc := 57) (nm_i4 ho1) (nm_i4 ho) (Nat.le_trans (Nat.le_of_ble_eq_true rfl) hF0) (Nat.le_of_ble_eq_true rfl) wd_529 dk_Is_become_57 ?_
  refine rn_lets (fun s4 => ?_)
  refine rn_aload_n (pc := 60) 1 dk_Is_become_60 rfl rfl (nm_rok_isl ho1) ?_
  refine gf_Is_24 (pc := 61) o1 ho1 rfl dk_Is_become_61 ?_
  refine rn_iconst (pc := 64) (0 : Int32) dk_Is_become_64 cn_i_0 ?_
  refine rn_aload_n (pc := 65) 0 dk_Is_become_65 rfl rfl (nm_rok_isl ho) ?_
  refine gf_Is_24 (pc := 66) o ho rfl dk_Is_become_66 ?_
  refine rn_iconst (pc := 69) (0 : Int32) dk_Is_become_69 cn_i_0 ?_
  refine rn_bipush (pc := 70) (8 : Int32) dk_Is_become_70 cn_b_8 ?_
  refine rn_acopyI (pc := 72) (nm_i5 ho1) (nm_i5 ho) (Nat.le_trans (Nat.le_of_ble_eq_true rfl) hF0) (Nat.le_of_ble_eq_true rfl) wd_529 dk_Is_become_72 ?_
  refine rn_lets (fun s5 => ?_)
  refine rn_aload_n (pc := 75) 1 dk_Is_become_75 rfl rfl (nm_rok_isl ho1) ?_
  refine gf_Is_27 (pc := 76) o1 ho1 rfl dk_Is_become_76 ?_
  refine rn_iconst (pc := 79) (0 : Int32) dk_Is_become_79 cn_i_0 ?_
  refine rn_aload_n (pc := 80) 0 dk_Is_become_80 rfl rfl (nm_rok_isl ho) ?_
  refine gf_Is_27 (pc := 81) o ho rfl dk_Is_become_81 ?_
  refine rn_iconst (pc := 84) (0 : Int32) dk_Is_become_84 cn_i_0 ?_
  refine rn_bipush (pc := 85) (8 : Int32) dk_Is_become_85 cn_b_8 ?_
  refine rn_acopyI (pc := 87) (nm_i6 ho1) (nm_i6 ho) (Nat.le_trans (Nat.le_of_ble_eq_true rfl) hF0) (Nat.le_of_ble_eq_true rfl) wd_529 dk_Is_become_87 ?_
  refine rn_lets (fun s6 => ?_)
  refine rn_aload_n (pc := 90) 0 dk_Is_become_90 rfl rfl (nm_rok_isl ho) ?_
  refine rn_aload_n (pc := 91) 1 dk_Is_become_91 rfl rfl (nm_rok_isl ho1) ?_
  refine gf_Is_30 (pc := 92) o1 ho1 rfl dk_Is_become_92 ?_
  refine pf_Is_30 (pc := 95) o ho rfl dk_Is_become_95 ?_
  refine rn_lets (fun s7 => ?_)
  refine rn_aload_n (pc := 98) 0 dk_Is_become_98 rfl rfl (nm_rok_isl ho) ?_
  refine rn_aload_n (pc := 99) 1 dk_Is_become_99 rfl rfl (nm_rok_isl ho1) ?_
  refine gf_Is_34 (pc := 100) o1 ho1 rfl dk_Is_become_100 ?_
  refine pf_Is_34 (pc := 103) o ho rfl dk_Is_become_103 ?_
  refine rn_lets (fun s8 => ?_)
  refine rn_aload_n (pc := 106) 0 dk_Is_become_106 rfl rfl (nm_rok_isl ho) ?_
  refine rn_aload_n (pc := 107) 1 dk_Is_become_107 rfl rfl (nm_rok_isl ho1) ?_
  refine gf_Is_37 (pc := 108) o1 ho1 rfl dk_Is_become_108 ?_
  refine pf_Is_37 (pc := 111) o ho rfl dk_Is_become_111 ?_
  refine rn_lets (fun s9 => ?_)
  refine rn_aload_n (pc := 114) 0 dk_Is_become_114 rfl rfl (nm_rok_isl ho) ?_
  refine rn_aload_n (pc := 115) 1 dk_Is_become_115 rfl rfl (nm_rok_isl ho1) ?_
  refine gf_Is_40 (pc := 116) o1 ho1 rfl dk_Is_become_116 ?_
  refine pf_Is_40 (pc := 119) o ho rfl dk_Is_become_119 ?_
  refine rn_lets (fun s10 => ?_)
  refine rn_aload_n (pc := 122) 0 dk_Is_become_122 rfl rfl (nm_rok_isl ho) ?_
  refine rn_aload_n (pc := 123) 1 dk_Is_become_123 rfl rfl (nm_rok_isl ho1) ?_
  refine gf_Is_43 (pc := 124) o1 ho1 rfl dk_Is_become_124 ?_
  refine pf_Is_43 (pc := 127) o ho rfl dk_Is_become_127 ?_
  refine rn_lets (fun s11 => ?_)
  refine rn_aload_n (pc := 130) 0 dk_Is_become_130 rfl rfl (nm_rok_isl ho) ?_
  refine rn_aload_n (pc := 131) 1 dk_Is_become_131 rfl rfl (nm_rok_isl ho1) ?_
  refine gf_Is_46 (pc := 132) o1 ho1 rfl dk_Is_become_132 ?_
  refine pf_Is_46 (pc := 135) o ho rfl dk_Is_become_135 ?_
  refine rn_lets (fun s12 => ?_)
  exact rn_vret rfl dk_Is_become_138
theorem dk_Is_moveTo_0 : decode mi_Is_moveTo.2.1 0 = .ok (.aload_n 0, 1) := by decide +kernel
theorem dk_Is_moveTo_1 : decode mi_Is_moveTo.2.1 1 = .ok (.iload_n 1, 1) := by decide +kernel
theorem dk_Is_moveTo_2 : decode mi_Is_moveTo.2.1 2 = .ok (.invokevirtual 59, 3) := by decide +kernel
theorem dk_Is_moveTo_5 : decode mi_Is_moveTo.2.1 5 = .ok (.ifCond .eq 10, 3) := by decide +kernel
theorem dk_Is_moveTo_8 : decode mi_Is_moveTo.2.1 8 = .ok (.aload_n 0, 1) := by decide +kernel
theorem dk_Is_moveTo_9 : decode mi_Is_moveTo.2.1 9 = .ok (.getfield 27, 3) := by decide +kernel
theorem dk_Is_moveTo_12 : decode mi_Is_moveTo.2.1 12 = .ok (.iload_n 1, 1) := by decide +kernel
theorem dk_Is_moveTo_13 : decode mi_Is_moveTo.2.1 13 = .ok (.iload_n 2, 1) := by decide +kernel
theorem dk_Is_moveTo_14 : decode mi_Is_moveTo.2.1 14 = .ok (.iastore, 1) := by decide +kernel
theorem dk_Is_moveTo_15 : decode mi_Is_moveTo.2.1 15 = .ok (.return_, 1) := by decide +kernel
def Is_moveTo (o : Nat) (p1 : Int32) (p2 : Int32) (σ : nm_St) : Option (Unit × nm_St) :=
  ((Is_isMaker o p1 σ).bind fun q1 =>
  (if q1.1 = 0 then
    some ((), q1.2)
  else
    (nm_g (nm_in p1 8) (
    (nm_let (nm_pI q1.2 (o + 6) p1.toNatClampNeg p2) fun s4 =>
    some ((), s4))))))
set_option maxRecDepth 100000 in
set_option maxHeartbeats 4000000 in
theorem ct_Is_moveTo (X : nm_X) (o : Nat) (ho : nm_isl o = true) (p1 : Int32) (p2 : Int32) (σ : nm_St) : Ct X mi_Is_moveTo 1 nm_wV [.ref o, .int p1, .int p2] σ (Is_moveTo o p1 p2 σ) := by
  refine Ct.of (by decide +kernel) rfl (fun F hF0 => ?_)
  unfold Is_moveTo
  refine rn_aload_n (pc := 0) 0 dk_Is_moveTo_0 rfl rfl (nm_rok_isl ho) ?_
  refine rn_iload_n (pc := 1) 1 dk_Is_moveTo_1 rfl rfl ?_
  refine cl_Is_59 (pc := 2) (As := [.int p1]) (st := []) o ho rfl (ct_Is_isMaker X o ho p1 σ) (Nat.le_trans (Nat.le_of_ble_eq_true rfl) hF0) rfl rfl (Nat.le_of_ble_eq_true rfl) dk_Is_moveTo_2 (fun q1 => ?_)
  refine rn_if_eq (pc := 5) 15 dk_Is_moveTo_5 (by decide) (fun c2 => ?_) (fun c2 => ?_)
  · exact rn_vret rfl dk_Is_moveTo_15
  · refine rn_aload_n (pc := 8) 0 dk_Is_moveTo_8 rfl rfl (nm_rok_isl ho) ?_
    refine gf_Is_27 (pc := 9) o ho rfl dk_Is_moveTo_9 ?_
    refine rn_iload_n (pc := 12) 1 dk_Is_moveTo_12 rfl rfl ?_
    refine rn_iload_n (pc := 13) 2 dk_Is_moveTo_13 rfl rfl ?_
    refine rn_iastore (pc := 14) (nm_i6 ho) dk_Is_moveTo_14 (fun g3 => ?_)
    refine rn_lets (fun s4 => ?_)
    exact rn_vret rfl dk_Is_moveTo_15
theorem dk_Tr_fail_0 : decode mi_Tr_fail.2.1 0 = .ok (.aload_n 0, 1) := by decide +kernel
theorem dk_Tr_fail_1 : decode mi_Tr_fail.2.1 1 = .ok (.getfield 35, 3) := by decide +kernel
theorem dk_Tr_fail_4 : decode mi_Tr_fail.2.1 4 = .ok (.iconst (-1), 1) := by decide +kernel
theorem dk_Tr_fail_5 : decode mi_Tr_fail.2.1 5 = .ok (.if_icmp .ne 8, 3) := by decide +kernel
theorem dk_Tr_fail_8 : decode mi_Tr_fail.2.1 8 = .ok (.aload_n 0, 1) := by decide +kernel
theorem dk_Tr_fail_9 : decode mi_Tr_fail.2.1 9 = .ok (.iload_n 1, 1) := by decide +kernel
theorem dk_Tr_fail_10 : decode mi_Tr_fail.2.1 10 = .ok (.putfield 35, 3) := by decide +kernel
theorem dk_Tr_fail_13 : decode mi_Tr_fail.2.1 13 = .ok (.return_, 1) := by decide +kernel
def Tr_fail (p1 : Int32) (σ : nm_St) : Option (Unit × nm_St) :=
  (if (σ.1 42 6) = (-1 : Int32) then
    (nm_let (nm_pI σ 42 6 p1) fun s2 =>
    some ((), s2))
  else
    some ((), σ))
set_option maxRecDepth 100000 in
set_option maxHeartbeats 4000000 in
theorem ct_Tr_fail (X : nm_X) (p1 : Int32) (σ : nm_St) : Ct X mi_Tr_fail 0 nm_wV [.ref 42, .int p1] σ (Tr_fail p1 σ) := by
  refine Ct.of (by decide +kernel) rfl (fun F hF0 => ?_)
  unfold Tr_fail
  refine rn_aload_n (pc := 0) 0 dk_Tr_fail_0 rfl rfl rfl ?_
  refine gf_Tr_35 (pc := 1) rfl dk_Tr_fail_1 ?_
  refine rn_iconst (pc := 4) (-1 : Int32) dk_Tr_fail_4 cn_i_m1 ?_
  refine rn_icmp_ne (pc := 5) 13 dk_Tr_fail_5 (by decide) (fun c1 => ?_) (fun c1 => ?_)
  · exact rn_vret rfl dk_Tr_fail_13
  · refine rn_aload_n (pc := 8) 0 dk_Tr_fail_8 rfl rfl rfl ?_
    refine rn_iload_n (pc := 9) 1 dk_Tr_fail_9 rfl rfl ?_
    refine pf_Tr_35 (pc := 10) rfl dk_Tr_fail_10 ?_
    refine rn_lets (fun s2 => ?_)
    exact rn_vret rfl dk_Tr_fail_13
theorem dk_Tr_digitAt_0 : decode mi_Tr_digitAt.2.1 0 = .ok (.iload_n 1, 1) := by decide +kernel
theorem dk_Tr_digitAt_1 : decode mi_Tr_digitAt.2.1 1 = .ok (.ifCond .lt 20, 3) := by decide +kernel
theorem dk_Tr_digitAt_4 : decode mi_Tr_digitAt.2.1 4 = .ok (.iload_n 1, 1) := by decide +kernel
theorem dk_Tr_digitAt_5 : decode mi_Tr_digitAt.2.1 5 = .ok (.aload_n 0, 1) := by decide +kernel
theorem dk_Tr_digitAt_6 : decode mi_Tr_digitAt.2.1 6 = .ok (.getfield 22, 3) := by decide +kernel
theorem dk_Tr_digitAt_9 : decode mi_Tr_digitAt.2.1 9 = .ok (.if_icmp .ge 12, 3) := by decide +kernel
theorem dk_Tr_digitAt_12 : decode mi_Tr_digitAt.2.1 12 = .ok (.aload_n 0, 1) := by decide +kernel
theorem dk_Tr_digitAt_13 : decode mi_Tr_digitAt.2.1 13 = .ok (.getfield 18, 3) := by decide +kernel
theorem dk_Tr_digitAt_16 : decode mi_Tr_digitAt.2.1 16 = .ok (.iload_n 1, 1) := by decide +kernel
theorem dk_Tr_digitAt_17 : decode mi_Tr_digitAt.2.1 17 = .ok (.iaload, 1) := by decide +kernel
theorem dk_Tr_digitAt_18 : decode mi_Tr_digitAt.2.1 18 = .ok (.goto 4, 3) := by decide +kernel
theorem dk_Tr_digitAt_21 : decode mi_Tr_digitAt.2.1 21 = .ok (.iconst (-1), 1) := by decide +kernel
theorem dk_Tr_digitAt_22 : decode mi_Tr_digitAt.2.1 22 = .ok (.istore_n 2, 1) := by decide +kernel
theorem dk_Tr_digitAt_23 : decode mi_Tr_digitAt.2.1 23 = .ok (.iload_n 2, 1) := by decide +kernel
theorem dk_Tr_digitAt_24 : decode mi_Tr_digitAt.2.1 24 = .ok (.bipush 48, 2) := by decide +kernel
theorem dk_Tr_digitAt_26 : decode mi_Tr_digitAt.2.1 26 = .ok (.if_icmp .lt 16, 3) := by decide +kernel
theorem dk_Tr_digitAt_29 : decode mi_Tr_digitAt.2.1 29 = .ok (.iload_n 2, 1) := by decide +kernel
theorem dk_Tr_digitAt_30 : decode mi_Tr_digitAt.2.1 30 = .ok (.bipush 57, 2) := by decide +kernel
theorem dk_Tr_digitAt_32 : decode mi_Tr_digitAt.2.1 32 = .ok (.if_icmp .gt 10, 3) := by decide +kernel
theorem dk_Tr_digitAt_35 : decode mi_Tr_digitAt.2.1 35 = .ok (.iload_n 2, 1) := by decide +kernel
theorem dk_Tr_digitAt_36 : decode mi_Tr_digitAt.2.1 36 = .ok (.bipush 48, 2) := by decide +kernel
theorem dk_Tr_digitAt_38 : decode mi_Tr_digitAt.2.1 38 = .ok (.isub, 1) := by decide +kernel
theorem dk_Tr_digitAt_39 : decode mi_Tr_digitAt.2.1 39 = .ok (.goto 4, 3) := by decide +kernel
theorem dk_Tr_digitAt_42 : decode mi_Tr_digitAt.2.1 42 = .ok (.iconst (-1), 1) := by decide +kernel
theorem dk_Tr_digitAt_43 : decode mi_Tr_digitAt.2.1 43 = .ok (.ireturn, 1) := by decide +kernel
def Tr_digitAt_j22 (y0 : Int32) (σ : nm_St) : Option (Int32 × nm_St) :=
  (if y0 < (48 : Int32) then
    some ((-1 : Int32), σ)
  else
    (if (57 : Int32) < y0 then
      some ((-1 : Int32), σ)
    else
      some ((y0 - (48 : Int32)), σ)))
set_option maxRecDepth 100000 in
set_option maxHeartbeats 4000000 in
theorem r_Tr_digitAt_j22 (X : nm_X) (F : nm_F) (hF0 : 0 ≤ nm_d F) (y0 : Int32) (σ : nm_St) : Rn X mi_Tr_digitAt F (nm_Qf X F nm_wI) [] [.int y0] 22 σ (Tr_digitAt_j22 y0 σ) := by
  unfold Tr_digitAt_j22
  refine rn_istore_n (pc := 22) 2 dk_Tr_digitAt_22 rfl rfl rfl ?_
  refine rn_iload_n (pc := 23) 2 dk_Tr_digitAt_23 rfl rfl ?_
  refine rn_bipush (pc := 24) (48 : Int32) dk_Tr_digitAt_24 cn_b_48 ?_
  refine rn_icmp_lt (pc := 26) 42 dk_Tr_digitAt_26 (by decide) (fun c2 => ?_) (fun c2 => ?_)
  · refine rn_iconst (pc := 42) (-1 : Int32) dk_Tr_digitAt_42 cn_i_m1 ?_
    exact rn_iret rfl dk_Tr_digitAt_43
  · refine rn_iload_n (pc := 29) 2 dk_Tr_digitAt_29 rfl rfl ?_
    refine rn_bipush (pc := 30) (57 : Int32) dk_Tr_digitAt_30 cn_b_57 ?_
    refine rn_icmp_gt (pc := 32) 42 dk_Tr_digitAt_32 (by decide) (fun c3 => ?_) (fun c3 => ?_)
    · refine rn_iconst (pc := 42) (-1 : Int32) dk_Tr_digitAt_42 cn_i_m1 ?_
      exact rn_iret rfl dk_Tr_digitAt_43
    · refine rn_iload_n (pc := 35) 2 dk_Tr_digitAt_35 rfl rfl ?_
      refine rn_bipush (pc := 36) (48 : Int32) dk_Tr_digitAt_36 cn_b_48 ?_
      refine rn_isub (pc := 38) dk_Tr_digitAt_38 ?_
      refine rn_goto (pc := 39) 43 dk_Tr_digitAt_39 (by decide) ?_
      exact rn_iret rfl dk_Tr_digitAt_43
def Tr_digitAt_j21 (σ : nm_St) : Option (Int32 × nm_St) :=
  Tr_digitAt_j22 (-1 : Int32) σ
set_option maxRecDepth 100000 in
set_option maxHeartbeats 4000000 in
theorem r_Tr_digitAt_j21 (X : nm_X) (F : nm_F) (hF0 : 0 ≤ nm_d F) (σ : nm_St) : Rn X mi_Tr_digitAt F (nm_Qf X F nm_wI) [] [] 21 σ (Tr_digitAt_j21 σ) := by
  unfold Tr_digitAt_j21
  refine rn_iconst (pc := 21) (-1 : Int32) dk_Tr_digitAt_21 cn_i_m1 ?_
  exact rn_sub (by rfl) (r_Tr_digitAt_j22 X F hF0 (-1 : Int32) σ)
def Tr_digitAt (p1 : Int32) (σ : nm_St) : Option (Int32 × nm_St) :=
  (if p1 < 0 then
    Tr_digitAt_j21 σ
  else
    (if (σ.1 42 2) ≤ p1 then
      Tr_digitAt_j21 σ
    else
      (nm_g (nm_in p1 160) (
      Tr_digitAt_j22 (σ.1 50 p1.toNatClampNeg) σ))))
set_option maxRecDepth 100000 in
set_option maxHeartbeats 4000000 in
theorem ct_Tr_digitAt (X : nm_X) (p1 : Int32) (σ : nm_St) : Ct X mi_Tr_digitAt 0 nm_wI [.ref 42, .int p1] σ (Tr_digitAt p1 σ) := by
  refine Ct.of (by decide +kernel) rfl (fun F hF0 => ?_)
  unfold Tr_digitAt
  refine rn_iload_n (pc := 0) 1 dk_Tr_digitAt_0 rfl rfl ?_
  refine rn_if_lt (pc := 1) 21 dk_Tr_digitAt_1 (by decide) (fun c1 => ?_) (fun c1 => ?_)
  · exact rn_sub (by rfl) (r_Tr_digitAt_j21 X F hF0 σ)
  · refine rn_iload_n (pc := 4) 1 dk_Tr_digitAt_4 rfl rfl ?_
    refine rn_aload_n (pc := 5) 0 dk_Tr_digitAt_5 rfl rfl rfl ?_
    refine gf_Tr_22 (pc := 6) rfl dk_Tr_digitAt_6 ?_
    refine rn_icmp_ge (pc := 9) 21 dk_Tr_digitAt_9 (by decide) (fun c4 => ?_) (fun c4 => ?_)
    · exact rn_sub (by rfl) (r_Tr_digitAt_j21 X F hF0 σ)
    · refine rn_aload_n (pc := 12) 0 dk_Tr_digitAt_12 rfl rfl rfl ?_
      refine gf_Tr_18 (pc := 13) rfl dk_Tr_digitAt_13 ?_
      refine rn_iload_n (pc := 16) 1 dk_Tr_digitAt_16 rfl rfl ?_
      refine rn_iaload (pc := 17) rfl dk_Tr_digitAt_17 (fun g5 => ?_)
      refine rn_goto (pc := 18) 22 dk_Tr_digitAt_18 (by decide) ?_
      exact rn_sub (by rfl) (r_Tr_digitAt_j22 X F hF0 (σ.1 50 p1.toNatClampNeg) σ)
theorem dk_Tr_hasSign_0 : decode mi_Tr_hasSign.2.1 0 = .ok (.iload_n 1, 1) := by decide +kernel
theorem dk_Tr_hasSign_1 : decode mi_Tr_hasSign.2.1 1 = .ok (.ifCond .lt 25, 3) := by decide +kernel
theorem dk_Tr_hasSign_4 : decode mi_Tr_hasSign.2.1 4 = .ok (.iload_n 1, 1) := by decide +kernel
theorem dk_Tr_hasSign_5 : decode mi_Tr_hasSign.2.1 5 = .ok (.aload_n 0, 1) := by decide +kernel
theorem dk_Tr_hasSign_6 : decode mi_Tr_hasSign.2.1 6 = .ok (.getfield 22, 3) := by decide +kernel
theorem dk_Tr_hasSign_9 : decode mi_Tr_hasSign.2.1 9 = .ok (.if_icmp .ge 17, 3) := by decide +kernel
theorem dk_Tr_hasSign_12 : decode mi_Tr_hasSign.2.1 12 = .ok (.aload_n 0, 1) := by decide +kernel
theorem dk_Tr_hasSign_13 : decode mi_Tr_hasSign.2.1 13 = .ok (.getfield 18, 3) := by decide +kernel
theorem dk_Tr_hasSign_16 : decode mi_Tr_hasSign.2.1 16 = .ok (.iload_n 1, 1) := by decide +kernel
theorem dk_Tr_hasSign_17 : decode mi_Tr_hasSign.2.1 17 = .ok (.iaload, 1) := by decide +kernel
theorem dk_Tr_hasSign_18 : decode mi_Tr_hasSign.2.1 18 = .ok (.iload_n 2, 1) := by decide +kernel
theorem dk_Tr_hasSign_19 : decode mi_Tr_hasSign.2.1 19 = .ok (.if_icmp .ne 7, 3) := by decide +kernel
theorem dk_Tr_hasSign_22 : decode mi_Tr_hasSign.2.1 22 = .ok (.iconst 1, 1) := by decide +kernel
theorem dk_Tr_hasSign_23 : decode mi_Tr_hasSign.2.1 23 = .ok (.goto 4, 3) := by decide +kernel
theorem dk_Tr_hasSign_26 : decode mi_Tr_hasSign.2.1 26 = .ok (.iconst 0, 1) := by decide +kernel
theorem dk_Tr_hasSign_27 : decode mi_Tr_hasSign.2.1 27 = .ok (.ireturn, 1) := by decide +kernel
def Tr_hasSign (p1 : Int32) (p2 : Int32) (σ : nm_St) : Option (Int32 × nm_St) :=
  (if p1 < 0 then
    some ((0 : Int32), σ)
  else
    (if (σ.1 42 2) ≤ p1 then
      some ((0 : Int32), σ)
    else
      (nm_g (nm_in p1 160) (
      (if (σ.1 50 p1.toNatClampNeg) = p2 then
        some ((1 : Int32), σ)
      else
        some ((0 : Int32), σ))))))
set_option maxRecDepth 100000 in
set_option maxHeartbeats 4000000 in
theorem ct_Tr_hasSign (X : nm_X) (p1 : Int32) (p2 : Int32) (σ : nm_St) : Ct X mi_Tr_hasSign 0 nm_wI [.ref 42, .int p1, .int p2] σ (Tr_hasSign p1 p2 σ) := by
  refine Ct.of (by decide +kernel) rfl (fun F hF0 => ?_)
  unfold Tr_hasSign
  refine rn_iload_n (pc := 0) 1 dk_Tr_hasSign_0 rfl rfl ?_
  refine rn_if_lt (pc := 1) 26 dk_Tr_hasSign_1 (by decide) (fun c1 => ?_) (fun c1 => ?_)
  · refine rn_iconst (pc := 26) (0 : Int32) dk_Tr_hasSign_26 cn_i_0 ?_
    exact rn_zret (ty := .boolean) rfl rfl dk_Tr_hasSign_27
  · refine rn_iload_n (pc := 4) 1 dk_Tr_hasSign_4 rfl rfl ?_
    refine rn_aload_n (pc := 5) 0 dk_Tr_hasSign_5 rfl rfl rfl ?_
    refine gf_Tr_22 (pc := 6) rfl dk_Tr_hasSign_6 ?_
    refine rn_icmp_ge (pc := 9) 26 dk_Tr_hasSign_9 (by decide) (fun c2 => ?_) (fun c2 => ?_)
    · refine rn_iconst (pc := 26) (0 : Int32) dk_Tr_hasSign_26 cn_i_0 ?_
      exact rn_zret (ty := .boolean) rfl rfl dk_Tr_hasSign_27
    · refine rn_aload_n (pc := 12) 0 dk_Tr_hasSign_12 rfl rfl rfl ?_
      refine gf_Tr_18 (pc := 13) rfl dk_Tr_hasSign_13 ?_
      refine rn_iload_n (pc := 16) 1 dk_Tr_hasSign_16 rfl rfl ?_
      refine rn_iaload (pc := 17) rfl dk_Tr_hasSign_17 (fun g3 => ?_)
      refine rn_iload_n (pc := 18) 2 dk_Tr_hasSign_18 rfl rfl ?_
      refine rn_icmp_ne (pc := 19) 26 dk_Tr_hasSign_19 (by decide) (fun c4 => ?_) (fun c4 => ?_)
      · refine rn_iconst (pc := 26) (0 : Int32) dk_Tr_hasSign_26 cn_i_0 ?_
        exact rn_zret (ty := .boolean) rfl rfl dk_Tr_hasSign_27
      · refine rn_iconst (pc := 22) (1 : Int32) dk_Tr_hasSign_22 cn_i_1 ?_
        refine rn_goto (pc := 23) 27 dk_Tr_hasSign_23 (by decide) ?_
        exact rn_zret (ty := .boolean) rfl rfl dk_Tr_hasSign_27
theorem dk_Tr_readSign_0 : decode mi_Tr_readSign.2.1 0 = .ok (.aload_n 0, 1) := by decide +kernel
theorem dk_Tr_readSign_1 : decode mi_Tr_readSign.2.1 1 = .ok (.getfield 35, 3) := by decide +kernel
theorem dk_Tr_readSign_4 : decode mi_Tr_readSign.2.1 4 = .ok (.iconst (-1), 1) := by decide +kernel
theorem dk_Tr_readSign_5 : decode mi_Tr_readSign.2.1 5 = .ok (.if_icmp .eq 4, 3) := by decide +kernel
theorem dk_Tr_readSign_8 : decode mi_Tr_readSign.2.1 8 = .ok (.return_, 1) := by decide +kernel
theorem dk_Tr_readSign_9 : decode mi_Tr_readSign.2.1 9 = .ok (.aload_n 0, 1) := by decide +kernel
theorem dk_Tr_readSign_10 : decode mi_Tr_readSign.2.1 10 = .ok (.aload_n 0, 1) := by decide +kernel
theorem dk_Tr_readSign_11 : decode mi_Tr_readSign.2.1 11 = .ok (.getfield 26, 3) := by decide +kernel
theorem dk_Tr_readSign_14 : decode mi_Tr_readSign.2.1 14 = .ok (.iload_n 1, 1) := by decide +kernel
theorem dk_Tr_readSign_15 : decode mi_Tr_readSign.2.1 15 = .ok (.invokevirtual 66, 3) := by decide +kernel
theorem dk_Tr_readSign_18 : decode mi_Tr_readSign.2.1 18 = .ok (.ifCond .eq 16, 3) := by decide +kernel
theorem dk_Tr_readSign_21 : decode mi_Tr_readSign.2.1 21 = .ok (.aload_n 0, 1) := by decide +kernel
theorem dk_Tr_readSign_22 : decode mi_Tr_readSign.2.1 22 = .ok (.dup, 1) := by decide +kernel
theorem dk_Tr_readSign_23 : decode mi_Tr_readSign.2.1 23 = .ok (.getfield 26, 3) := by decide +kernel
theorem dk_Tr_readSign_26 : decode mi_Tr_readSign.2.1 26 = .ok (.iconst 1, 1) := by decide +kernel
theorem dk_Tr_readSign_27 : decode mi_Tr_readSign.2.1 27 = .ok (.iadd, 1) := by decide +kernel
theorem dk_Tr_readSign_28 : decode mi_Tr_readSign.2.1 28 = .ok (.putfield 26, 3) := by decide +kernel
theorem dk_Tr_readSign_31 : decode mi_Tr_readSign.2.1 31 = .ok (.goto 11, 3) := by decide +kernel
theorem dk_Tr_readSign_34 : decode mi_Tr_readSign.2.1 34 = .ok (.aload_n 0, 1) := by decide +kernel
theorem dk_Tr_readSign_35 : decode mi_Tr_readSign.2.1 35 = .ok (.aload_n 0, 1) := by decide +kernel
theorem dk_Tr_readSign_36 : decode mi_Tr_readSign.2.1 36 = .ok (.getfield 26, 3) := by decide +kernel
theorem dk_Tr_readSign_39 : decode mi_Tr_readSign.2.1 39 = .ok (.invokevirtual 70, 3) := by decide +kernel
theorem dk_Tr_readSign_42 : decode mi_Tr_readSign.2.1 42 = .ok (.return_, 1) := by decide +kernel
def Tr_readSign (p1 : Int32) (σ : nm_St) : Option (Unit × nm_St) :=
  (if (σ.1 42 6) = (-1 : Int32) then
    ((Tr_hasSign (σ.1 42 3) p1 σ).bind fun q2 =>
    (if q2.1 = 0 then
      ((Tr_fail (q2.2.1 42 3) q2.2).bind fun q4 =>
      some ((), q4.2))
    else
      (nm_let (nm_pI q2.2 42 3 ((q2.2.1 42 3) + (1 : Int32))) fun s5 =>
      some ((), s5))))
  else
    some ((), σ))
set_option maxRecDepth 100000 in
set_option maxHeartbeats 4000000 in
theorem ct_Tr_readSign (X : nm_X) (p1 : Int32) (σ : nm_St) : Ct X mi_Tr_readSign 1 nm_wV [.ref 42, .int p1] σ (Tr_readSign p1 σ) := by
  refine Ct.of (by decide +kernel) rfl (fun F hF0 => ?_)
  unfold Tr_readSign
  refine rn_aload_n (pc := 0) 0 dk_Tr_readSign_0 rfl rfl rfl ?_
  refine gf_Tr_35 (pc := 1) rfl dk_Tr_readSign_1 ?_
  refine rn_iconst (pc := 4) (-1 : Int32) dk_Tr_readSign_4 cn_i_m1 ?_
  refine rn_icmp_eq (pc := 5) 9 dk_Tr_readSign_5 (by decide) (fun c1 => ?_) (fun c1 => ?_)
  · refine rn_aload_n (pc := 9) 0 dk_Tr_readSign_9 rfl rfl rfl ?_
    refine rn_aload_n (pc := 10) 0 dk_Tr_readSign_10 rfl rfl rfl ?_
    refine gf_Tr_26 (pc := 11) rfl dk_Tr_readSign_11 ?_
    refine rn_iload_n (pc := 14) 1 dk_Tr_readSign_14 rfl rfl ?_
    refine cl_Tr_66 (pc := 15) (As := [.int (σ.1 42 3), .int p1]) (st := []) rfl (ct_Tr_hasSign X (σ.1 42 3) p1 σ) (Nat.le_trans (Nat.le_of_ble_eq_true rfl) hF0) rfl rfl (Nat.le_of_ble_eq_true rfl) dk_Tr_readSign_15 (fun q2 => ?_)
    refine rn_if_eq (pc := 18) 34 dk_Tr_readSign_18 (by decide) (fun c3 => ?_) (fun c3 => ?_)
    · refine rn_aload_n (pc := 34) 0 dk_Tr_readSign_34 rfl rfl rfl ?_
      refine rn_aload_n (pc := 35) 0 dk_Tr_readSign_35 rfl rfl rfl ?_
      refine gf_Tr_26 (pc := 36) rfl dk_Tr_readSign_36 ?_
      refine cl_Tr_70 (pc := 39) (As := [.int (q2.2.1 42 3)]) (st := []) rfl (ct_Tr_fail X (q2.2.1 42 3) q2.2) (Nat.le_trans (Nat.le_of_ble_eq_true rfl) hF0) rfl rfl (Nat.le_of_ble_eq_true rfl) dk_Tr_readSign_39 (fun q4 => ?_)
      exact rn_vret rfl dk_Tr_readSign_42
    · refine rn_aload_n (pc := 21) 0 dk_Tr_readSign_21 rfl rfl rfl ?_
      refine rn_dup (pc := 22) dk_Tr_readSign_22 rfl ?_
      refine gf_Tr_26 (pc := 23) rfl dk_Tr_readSign_23 ?_
      refine rn_iconst (pc := 26) (1 : Int32) dk_Tr_readSign_26 cn_i_1 ?_
      refine rn_iadd (pc := 27) dk_Tr_readSign_27 ?_
      refine pf_Tr_26 (pc := 28) rfl dk_Tr_readSign_28 ?_
      refine rn_lets (fun s5 => ?_)
      refine rn_goto (pc := 31) 42 dk_Tr_readSign_31 (by decide) ?_
      exact rn_vret rfl dk_Tr_readSign_42
  · exact rn_vret rfl dk_Tr_readSign_8
theorem dk_Tr_readNumber_0 : decode mi_Tr_readNumber.2.1 0 = .ok (.aload_n 0, 1) := by decide +kernel
theorem dk_Tr_readNumber_1 : decode mi_Tr_readNumber.2.1 1 = .ok (.bipush 32, 2) := by decide +kernel
theorem dk_Tr_readNumber_3 : decode mi_Tr_readNumber.2.1 3 = .ok (.invokevirtual 49, 3) := by decide +kernel
theorem dk_Tr_readNumber_6 : decode mi_Tr_readNumber.2.1 6 = .ok (.aload_n 0, 1) := by decide +kernel
theorem dk_Tr_readNumber_7 : decode mi_Tr_readNumber.2.1 7 = .ok (.getfield 35, 3) := by decide +kernel
theorem dk_Tr_readNumber_10 : decode mi_Tr_readNumber.2.1 10 = .ok (.iconst (-1), 1) := by decide +kernel
theorem dk_Tr_readNumber_11 : decode mi_Tr_readNumber.2.1 11 = .ok (.if_icmp .eq 5, 3) := by decide +kernel
theorem dk_Tr_readNumber_14 : decode mi_Tr_readNumber.2.1 14 = .ok (.iconst 0, 1) := by decide +kernel
theorem dk_Tr_readNumber_15 : decode mi_Tr_readNumber.2.1 15 = .ok (.ireturn, 1) := by decide +kernel
theorem dk_Tr_readNumber_16 : decode mi_Tr_readNumber.2.1 16 = .ok (.aload_n 0, 1) := by decide +kernel
theorem dk_Tr_readNumber_17 : decode mi_Tr_readNumber.2.1 17 = .ok (.aload_n 0, 1) := by decide +kernel
theorem dk_Tr_readNumber_18 : decode mi_Tr_readNumber.2.1 18 = .ok (.getfield 26, 3) := by decide +kernel
theorem dk_Tr_readNumber_21 : decode mi_Tr_readNumber.2.1 21 = .ok (.putfield 29, 3) := by decide +kernel
theorem dk_Tr_readNumber_24 : decode mi_Tr_readNumber.2.1 24 = .ok (.iconst 0, 1) := by decide +kernel
theorem dk_Tr_readNumber_25 : decode mi_Tr_readNumber.2.1 25 = .ok (.istore_n 3, 1) := by decide +kernel
theorem dk_Tr_readNumber_26 : decode mi_Tr_readNumber.2.1 26 = .ok (.iconst 0, 1) := by decide +kernel
theorem dk_Tr_readNumber_27 : decode mi_Tr_readNumber.2.1 27 = .ok (.istore 4, 2) := by decide +kernel
theorem dk_Tr_readNumber_29 : decode mi_Tr_readNumber.2.1 29 = .ok (.iload 4, 2) := by decide +kernel
theorem dk_Tr_readNumber_31 : decode mi_Tr_readNumber.2.1 31 = .ok (.iconst 4, 1) := by decide +kernel
theorem dk_Tr_readNumber_32 : decode mi_Tr_readNumber.2.1 32 = .ok (.if_icmp .ge 45, 3) := by decide +kernel
theorem dk_Tr_readNumber_35 : decode mi_Tr_readNumber.2.1 35 = .ok (.aload_n 0, 1) := by decide +kernel
theorem dk_Tr_readNumber_36 : decode mi_Tr_readNumber.2.1 36 = .ok (.aload_n 0, 1) := by decide +kernel
theorem dk_Tr_readNumber_37 : decode mi_Tr_readNumber.2.1 37 = .ok (.getfield 26, 3) := by decide +kernel
theorem dk_Tr_readNumber_40 : decode mi_Tr_readNumber.2.1 40 = .ok (.invokevirtual 111, 3) := by decide +kernel
theorem dk_Tr_readNumber_43 : decode mi_Tr_readNumber.2.1 43 = .ok (.iconst (-1), 1) := by decide +kernel
theorem dk_Tr_readNumber_44 : decode mi_Tr_readNumber.2.1 44 = .ok (.if_icmp .eq 33, 3) := by decide +kernel
theorem dk_Tr_readNumber_47 : decode mi_Tr_readNumber.2.1 47 = .ok (.iload_n 3, 1) := by decide +kernel
theorem dk_Tr_readNumber_48 : decode mi_Tr_readNumber.2.1 48 = .ok (.bipush 10, 2) := by decide +kernel
theorem dk_Tr_readNumber_50 : decode mi_Tr_readNumber.2.1 50 = .ok (.imul, 1) := by decide +kernel
theorem dk_Tr_readNumber_51 : decode mi_Tr_readNumber.2.1 51 = .ok (.aload_n 0, 1) := by decide +kernel
theorem dk_Tr_readNumber_52 : decode mi_Tr_readNumber.2.1 52 = .ok (.aload_n 0, 1) := by decide +kernel
theorem dk_Tr_readNumber_53 : decode mi_Tr_readNumber.2.1 53 = .ok (.getfield 26, 3) := by decide +kernel
theorem dk_Tr_readNumber_56 : decode mi_Tr_readNumber.2.1 56 = .ok (.invokevirtual 111, 3) := by decide +kernel
theorem dk_Tr_readNumber_59 : decode mi_Tr_readNumber.2.1 59 = .ok (.iadd, 1) := by decide +kernel
theorem dk_Tr_readNumber_60 : decode mi_Tr_readNumber.2.1 60 = .ok (.istore_n 3, 1) := by decide +kernel
theorem dk_Tr_readNumber_61 : decode mi_Tr_readNumber.2.1 61 = .ok (.aload_n 0, 1) := by decide +kernel
theorem dk_Tr_readNumber_62 : decode mi_Tr_readNumber.2.1 62 = .ok (.dup, 1) := by decide +kernel
theorem dk_Tr_readNumber_63 : decode mi_Tr_readNumber.2.1 63 = .ok (.getfield 26, 3) := by decide +kernel
theorem dk_Tr_readNumber_66 : decode mi_Tr_readNumber.2.1 66 = .ok (.iconst 1, 1) := by decide +kernel
theorem dk_Tr_readNumber_67 : decode mi_Tr_readNumber.2.1 67 = .ok (.iadd, 1) := by decide +kernel
theorem dk_Tr_readNumber_68 : decode mi_Tr_readNumber.2.1 68 = .ok (.putfield 26, 3) := by decide +kernel
theorem dk_Tr_readNumber_71 : decode mi_Tr_readNumber.2.1 71 = .ok (.iinc 4 1, 3) := by decide +kernel
theorem dk_Tr_readNumber_74 : decode mi_Tr_readNumber.2.1 74 = .ok (.goto (-45), 3) := by decide +kernel
theorem dk_Tr_readNumber_77 : decode mi_Tr_readNumber.2.1 77 = .ok (.aload_n 0, 1) := by decide +kernel
theorem dk_Tr_readNumber_78 : decode mi_Tr_readNumber.2.1 78 = .ok (.getfield 26, 3) := by decide +kernel
theorem dk_Tr_readNumber_81 : decode mi_Tr_readNumber.2.1 81 = .ok (.aload_n 0, 1) := by decide +kernel
theorem dk_Tr_readNumber_82 : decode mi_Tr_readNumber.2.1 82 = .ok (.getfield 29, 3) := by decide +kernel
theorem dk_Tr_readNumber_85 : decode mi_Tr_readNumber.2.1 85 = .ok (.if_icmp .eq 12, 3) := by decide +kernel
theorem dk_Tr_readNumber_88 : decode mi_Tr_readNumber.2.1 88 = .ok (.iload_n 3, 1) := by decide +kernel
theorem dk_Tr_readNumber_89 : decode mi_Tr_readNumber.2.1 89 = .ok (.iload_n 1, 1) := by decide +kernel
theorem dk_Tr_readNumber_90 : decode mi_Tr_readNumber.2.1 90 = .ok (.iload_n 2, 1) := by decide +kernel
theorem dk_Tr_readNumber_91 : decode mi_Tr_readNumber.2.1 91 = .ok (.invokestatic 114, 3) := by decide +kernel
theorem dk_Tr_readNumber_94 : decode mi_Tr_readNumber.2.1 94 = .ok (.ifCond .ne 13, 3) := by decide +kernel
theorem dk_Tr_readNumber_97 : decode mi_Tr_readNumber.2.1 97 = .ok (.aload_n 0, 1) := by decide +kernel
theorem dk_Tr_readNumber_98 : decode mi_Tr_readNumber.2.1 98 = .ok (.aload_n 0, 1) := by decide +kernel
theorem dk_Tr_readNumber_99 : decode mi_Tr_readNumber.2.1 99 = .ok (.getfield 29, 3) := by decide +kernel
theorem dk_Tr_readNumber_102 : decode mi_Tr_readNumber.2.1 102 = .ok (.invokevirtual 70, 3) := by decide +kernel
theorem dk_Tr_readNumber_105 : decode mi_Tr_readNumber.2.1 105 = .ok (.iconst 0, 1) := by decide +kernel
theorem dk_Tr_readNumber_106 : decode mi_Tr_readNumber.2.1 106 = .ok (.ireturn, 1) := by decide +kernel
theorem dk_Tr_readNumber_107 : decode mi_Tr_readNumber.2.1 107 = .ok (.iload_n 3, 1) := by decide +kernel
theorem dk_Tr_readNumber_108 : decode mi_Tr_readNumber.2.1 108 = .ok (.ireturn, 1) := by decide +kernel
def Tr_readNumber_l29 (k_77 : Int32 → Int32 → Int32 → nm_St → Option (Int32 × nm_St)) : Nat → Int32 → Int32 → Int32 → Int32 → nm_St → Option (Int32 × nm_St)
  | 0, _, _, _, _, _ => none
  | n + 1, x1, x2, x3, x4, σ =>
    (if (4 : Int32) ≤ x4 then
      k_77 x1 x2 x3 σ
    else
      ((Tr_digitAt (σ.1 42 3) σ).bind fun q5 =>
      (if q5.1 = (-1 : Int32) then
        k_77 x1 x2 x3 q5.2
      else
        ((Tr_digitAt (q5.2.1 42 3) q5.2).bind fun q7 =>
        (nm_let (((x3 * (10 : Int32)) + q7.1)) fun v8 =>
        (nm_let (nm_pI q7.2 42 3 ((q7.2.1 42 3) + (1 : Int32))) fun s9 =>
        (Tr_readNumber_l29 k_77 n) x1 x2 v8 (x4 + (1 : Int32)) s9))))))
set_option maxRecDepth 100000 in
set_option maxHeartbeats 4000000 in
theorem r_Tr_readNumber_l29 (X : nm_X) (F : nm_F) (hF0 : 2 ≤ nm_d F) (k_77 : Int32 → Int32 → Int32 → nm_St → Option (Int32 × nm_St)) (hk_77 : ∀ (x1 : Int32) (x2 : Int32) (x3 : Int32) (σ : nm_St), Rn X mi_Tr_readNumber F (nm_Qf X F nm_wI) [(0, .ref 42), (1, .int x1), (2, .int x2), (3, .int x3)] [] 77 σ (k_77 x1 x2 x3 σ)) : ∀ (n : Nat) (x1 : Int32) (x2 : Int32) (x3 : Int32) (x4 : Int32) (σ : nm_St), Rn X mi_Tr_readNumber F (nm_Qf X F nm_wI) [(0, .ref 42), (1, .int x1), (2, .int x2), (3, .int x3), (4, .int x4)] [] 29 σ (Tr_readNumber_l29 k_77 n x1 x2 x3 x4 σ) := by
  intro n
  induction n with
  | zero =>
    intro x1 x2 x3 x4 σ
    exact rn_none
  | succ n ih =>
    intro x1 x2 x3 x4 σ
    unfold Tr_readNumber_l29
    refine rn_iload (pc := 29) dk_Tr_readNumber_29 rfl ?_
    refine rn_iconst (pc := 31) (4 : Int32) dk_Tr_readNumber_31 cn_i_4 ?_
    refine rn_icmp_ge (pc := 32) 77 dk_Tr_readNumber_32 (by decide) (fun c4 => ?_) (fun c4 => ?_)
    · exact rn_sub (by rfl) (hk_77 x1 x2 x3 σ)
    · refine rn_aload_n (pc := 35) 0 dk_Tr_readNumber_35 rfl rfl rfl ?_
      refine rn_aload_n (pc := 36) 0 dk_Tr_readNumber_36 rfl rfl rfl ?_
      refine gf_Tr_26 (pc := 37) rfl dk_Tr_readNumber_37 ?_
      refine cl_Tr_111 (pc := 40) (As := [.int (σ.1 42 3)]) (st := []) rfl (ct_Tr_digitAt X (σ.1 42 3) σ) (Nat.le_trans (Nat.le_of_ble_eq_true rfl) hF0) rfl rfl (Nat.le_of_ble_eq_true rfl) dk_Tr_readNumber_40 (fun q5 => ?_)
      refine rn_iconst (pc := 43) (-1 : Int32) dk_Tr_readNumber_43 cn_i_m1 ?_
      refine rn_icmp_eq (pc := 44) 77 dk_Tr_readNumber_44 (by decide) (fun c6 => ?_) (fun c6 => ?_)
      · exact rn_sub (by rfl) (hk_77 x1 x2 x3 q5.2)
      · refine rn_iload_n (pc := 47) 3 dk_Tr_readNumber_47 rfl rfl ?_
        refine rn_bipush (pc := 48) (10 : Int32) dk_Tr_readNumber_48 cn_b_10 ?_
        refine rn_imul (pc := 50) dk_Tr_readNumber_50 ?_
        refine rn_aload_n (pc := 51) 0 dk_Tr_readNumber_51 rfl rfl rfl ?_
        refine rn_aload_n (pc := 52) 0 dk_Tr_readNumber_52 rfl rfl rfl ?_
        refine gf_Tr_26 (pc := 53) rfl dk_Tr_readNumber_53 ?_
        refine cl_Tr_111 (pc := 56) (As := [.int (q5.2.1 42 3)]) (st := [.int (x3 * (10 : Int32))]) rfl (ct_Tr_digitAt X (q5.2.1 42 3) q5.2) (Nat.le_trans (Nat.le_of_ble_eq_true rfl) hF0) rfl rfl (Nat.le_of_ble_eq_true rfl) dk_Tr_readNumber_56 (fun q7 => ?_)
        refine rn_iadd (pc := 59) dk_Tr_readNumber_59 ?_
        refine rn_leti (fun v8 => ?_)
        refine rn_istore_n (pc := 60) 3 dk_Tr_readNumber_60 rfl rfl rfl ?_
        refine rn_aload_n (pc := 61) 0 dk_Tr_readNumber_61 rfl rfl rfl ?_
        refine rn_dup (pc := 62) dk_Tr_readNumber_62 rfl ?_
        refine gf_Tr_26 (pc := 63) rfl dk_Tr_readNumber_63 ?_
        refine rn_iconst (pc := 66) (1 : Int32) dk_Tr_readNumber_66 cn_i_1 ?_
        refine rn_iadd (pc := 67) dk_Tr_readNumber_67 ?_
        refine pf_Tr_26 (pc := 68) rfl dk_Tr_readNumber_68 ?_
        refine rn_lets (fun s9 => ?_)
        refine rn_iinc (pc := 71) (1 : Int32) dk_Tr_readNumber_71 cn_i_1 rfl rfl rfl ?_
        refine rn_goto (pc := 74) 29 dk_Tr_readNumber_74 (by decide) ?_
        exact rn_sub (by rfl) (ih x1 x2 v8 (x4 + (1 : Int32)) s9)
def Tr_readNumber_j97 (σ : nm_St) : Option (Int32 × nm_St) :=
  ((Tr_fail (σ.1 42 4) σ).bind fun q15 =>
  some ((0 : Int32), q15.2))
set_option maxRecDepth 100000 in
set_option maxHeartbeats 4000000 in
theorem r_Tr_readNumber_j97 (X : nm_X) (F : nm_F) (hF0 : 2 ≤ nm_d F) (σ : nm_St) : Rn X mi_Tr_readNumber F (nm_Qf X F nm_wI) [(0, .ref 42)] [] 97 σ (Tr_readNumber_j97 σ) := by
  unfold Tr_readNumber_j97
  refine rn_aload_n (pc := 97) 0 dk_Tr_readNumber_97 rfl rfl rfl ?_
  refine rn_aload_n (pc := 98) 0 dk_Tr_readNumber_98 rfl rfl rfl ?_
  refine gf_Tr_29 (pc := 99) rfl dk_Tr_readNumber_99 ?_
  refine cl_Tr_70 (pc := 102) (As := [.int (σ.1 42 4)]) (st := []) rfl (ct_Tr_fail X (σ.1 42 4) σ) (Nat.le_trans (Nat.le_of_ble_eq_true rfl) hF0) rfl rfl (Nat.le_of_ble_eq_true rfl) dk_Tr_readNumber_102 (fun q15 => ?_)
  refine rn_iconst (pc := 105) (0 : Int32) dk_Tr_readNumber_105 cn_i_0 ?_
  exact rn_iret rfl dk_Tr_readNumber_106
def Tr_readNumber_j77 (x1 : Int32) (x2 : Int32) (x3 : Int32) (σ : nm_St) : Option (Int32 × nm_St) :=
  (if (σ.1 42 3) = (σ.1 42 4) then
    Tr_readNumber_j97 σ
  else
    ((Nm_isWithin x3 x1 x2 σ).bind fun q16 =>
    (if q16.1 = 0 then
      Tr_readNumber_j97 q16.2
    else
      some (x3, q16.2))))
set_option maxRecDepth 100000 in
set_option maxHeartbeats 4000000 in
theorem r_Tr_readNumber_j77 (X : nm_X) (F : nm_F) (hF0 : 2 ≤ nm_d F) (x1 : Int32) (x2 : Int32) (x3 : Int32) (σ : nm_St) : Rn X mi_Tr_readNumber F (nm_Qf X F nm_wI) [(0, .ref 42), (1, .int x1), (2, .int x2), (3, .int x3)] [] 77 σ (Tr_readNumber_j77 x1 x2 x3 σ) := by
  unfold Tr_readNumber_j77
  refine rn_aload_n (pc := 77) 0 dk_Tr_readNumber_77 rfl rfl rfl ?_
  refine gf_Tr_26 (pc := 78) rfl dk_Tr_readNumber_78 ?_
  refine rn_aload_n (pc := 81) 0 dk_Tr_readNumber_81 rfl rfl rfl ?_
  refine gf_Tr_29 (pc := 82) rfl dk_Tr_readNumber_82 ?_
  refine rn_icmp_eq (pc := 85) 97 dk_Tr_readNumber_85 (by decide) (fun c14 => ?_) (fun c14 => ?_)
  · exact rn_sub (by rfl) (r_Tr_readNumber_j97 X F hF0 σ)
  · refine rn_iload_n (pc := 88) 3 dk_Tr_readNumber_88 rfl rfl ?_
    refine rn_iload_n (pc := 89) 1 dk_Tr_readNumber_89 rfl rfl ?_
    refine rn_iload_n (pc := 90) 2 dk_Tr_readNumber_90 rfl rfl ?_
    refine cl_Tr_114 (pc := 91) (As := [.int x3, .int x1, .int x2]) (st := []) rfl (ct_Nm_isWithin X x3 x1 x2 σ) (Nat.le_trans (Nat.le_of_ble_eq_true rfl) hF0) rfl rfl (Nat.le_of_ble_eq_true rfl) dk_Tr_readNumber_91 (fun q16 => ?_)
    refine rn_if_ne (pc := 94) 107 dk_Tr_readNumber_94 (by decide) (fun c17 => ?_) (fun c17 => ?_)
    · refine rn_iload_n (pc := 107) 3 dk_Tr_readNumber_107 rfl rfl ?_
      exact rn_iret rfl dk_Tr_readNumber_108
    · exact rn_sub (by rfl) (r_Tr_readNumber_j97 X F hF0 q16.2)
def Tr_readNumber (p1 : Int32) (p2 : Int32) (σ : nm_St) : Option (Int32 × nm_St) :=
  ((Tr_readSign (32 : Int32) σ).bind fun q1 =>
  (if (q1.2.1 42 6) = (-1 : Int32) then
    (nm_let (nm_pI q1.2 42 4 (q1.2.1 42 3)) fun s3 =>
    Tr_readNumber_l29 (fun (e11 : Int32) (e12 : Int32) (e13 : Int32) (s10 : nm_St) =>
      Tr_readNumber_j77 e11 e12 e13 s10) 400 p1 p2 (0 : Int32) (0 : Int32) s3)
  else
    some ((0 : Int32), q1.2)))
set_option maxRecDepth 100000 in
set_option maxHeartbeats 4000000 in
theorem ct_Tr_readNumber (X : nm_X) (p1 : Int32) (p2 : Int32) (σ : nm_St) : Ct X mi_Tr_readNumber 2 nm_wI [.ref 42, .int p1, .int p2] σ (Tr_readNumber p1 p2 σ) := by
  refine Ct.of (by decide +kernel) rfl (fun F hF0 => ?_)
  unfold Tr_readNumber
  refine rn_aload_n (pc := 0) 0 dk_Tr_readNumber_0 rfl rfl rfl ?_
  refine rn_bipush (pc := 1) (32 : Int32) dk_Tr_readNumber_1 cn_b_32 ?_
  refine cl_Tr_49 (pc := 3) (As := [.int (32 : Int32)]) (st := []) rfl (ct_Tr_readSign X (32 : Int32) σ) (Nat.le_trans (Nat.le_of_ble_eq_true rfl) hF0) rfl rfl (Nat.le_of_ble_eq_true rfl) dk_Tr_readNumber_3 (fun q1 => ?_)
  refine rn_aload_n (pc := 6) 0 dk_Tr_readNumber_6 rfl rfl rfl ?_
  refine gf_Tr_35 (pc := 7) rfl dk_Tr_readNumber_7 ?_
  refine rn_iconst (pc := 10) (-1 : Int32) dk_Tr_readNumber_10 cn_i_m1 ?_
  refine rn_icmp_eq (pc := 11) 16 dk_Tr_readNumber_11 (by decide) (fun c2 => ?_) (fun c2 => ?_)
  · refine rn_aload_n (pc := 16) 0 dk_Tr_readNumber_16 rfl rfl rfl ?_
    refine rn_aload_n (pc := 17) 0 dk_Tr_readNumber_17 rfl rfl rfl ?_
    refine gf_Tr_26 (pc := 18) rfl dk_Tr_readNumber_18 ?_
    refine pf_Tr_29 (pc := 21) rfl dk_Tr_readNumber_21 ?_
    refine rn_lets (fun s3 => ?_)
    refine rn_iconst (pc := 24) (0 : Int32) dk_Tr_readNumber_24 cn_i_0 ?_
    refine rn_istore_n (pc := 25) 3 dk_Tr_readNumber_25 rfl rfl rfl ?_
    refine rn_iconst (pc := 26) (0 : Int32) dk_Tr_readNumber_26 cn_i_0 ?_
    refine rn_istore (pc := 27) dk_Tr_readNumber_27 rfl rfl ?_
    refine rn_sub (by rfl) (r_Tr_readNumber_l29 X F hF0 _ (fun e11 e12 e13 s10 => ?_) 400 p1 p2 (0 : Int32) (0 : Int32) s3)
    exact rn_sub (by rfl) (r_Tr_readNumber_j77 X F hF0 e11 e12 e13 s10)
  · refine rn_iconst (pc := 14) (0 : Int32) dk_Tr_readNumber_14 cn_i_0 ?_
    exact rn_iret rfl dk_Tr_readNumber_15
theorem dk_Tr_readDies_0 : decode mi_Tr_readDies.2.1 0 = .ok (.aload_n 0, 1) := by decide +kernel
theorem dk_Tr_readDies_1 : decode mi_Tr_readDies.2.1 1 = .ok (.iconst 0, 1) := by decide +kernel
theorem dk_Tr_readDies_2 : decode mi_Tr_readDies.2.1 2 = .ok (.aload_n 0, 1) := by decide +kernel
theorem dk_Tr_readDies_3 : decode mi_Tr_readDies.2.1 3 = .ok (.getfield 12, 3) := by decide +kernel
theorem dk_Tr_readDies_6 : decode mi_Tr_readDies.2.1 6 = .ok (.getfield 158, 3) := by decide +kernel
theorem dk_Tr_readDies_9 : decode mi_Tr_readDies.2.1 9 = .ok (.iconst 1, 1) := by decide +kernel
theorem dk_Tr_readDies_10 : decode mi_Tr_readDies.2.1 10 = .ok (.isub, 1) := by decide +kernel
theorem dk_Tr_readDies_11 : decode mi_Tr_readDies.2.1 11 = .ok (.invokevirtual 147, 3) := by decide +kernel
theorem dk_Tr_readDies_14 : decode mi_Tr_readDies.2.1 14 = .ok (.istore_n 1, 1) := by decide +kernel
theorem dk_Tr_readDies_15 : decode mi_Tr_readDies.2.1 15 = .ok (.aload_n 0, 1) := by decide +kernel
theorem dk_Tr_readDies_16 : decode mi_Tr_readDies.2.1 16 = .ok (.getfield 12, 3) := by decide +kernel
theorem dk_Tr_readDies_19 : decode mi_Tr_readDies.2.1 19 = .ok (.iload_n 1, 1) := by decide +kernel
theorem dk_Tr_readDies_20 : decode mi_Tr_readDies.2.1 20 = .ok (.iconst 3, 1) := by decide +kernel
theorem dk_Tr_readDies_21 : decode mi_Tr_readDies.2.1 21 = .ok (.invokevirtual 172, 3) := by decide +kernel
theorem dk_Tr_readDies_24 : decode mi_Tr_readDies.2.1 24 = .ok (.ifCond .eq 11, 3) := by decide +kernel
theorem dk_Tr_readDies_27 : decode mi_Tr_readDies.2.1 27 = .ok (.aload_n 0, 1) := by decide +kernel
theorem dk_Tr_readDies_28 : decode mi_Tr_readDies.2.1 28 = .ok (.aload_n 0, 1) := by decide +kernel
theorem dk_Tr_readDies_29 : decode mi_Tr_readDies.2.1 29 = .ok (.getfield 29, 3) := by decide +kernel
theorem dk_Tr_readDies_32 : decode mi_Tr_readDies.2.1 32 = .ok (.invokevirtual 70, 3) := by decide +kernel
theorem dk_Tr_readDies_35 : decode mi_Tr_readDies.2.1 35 = .ok (.aload_n 0, 1) := by decide +kernel
theorem dk_Tr_readDies_36 : decode mi_Tr_readDies.2.1 36 = .ok (.getfield 35, 3) := by decide +kernel
theorem dk_Tr_readDies_39 : decode mi_Tr_readDies.2.1 39 = .ok (.iconst (-1), 1) := by decide +kernel
theorem dk_Tr_readDies_40 : decode mi_Tr_readDies.2.1 40 = .ok (.if_icmp .ne 12, 3) := by decide +kernel
theorem dk_Tr_readDies_43 : decode mi_Tr_readDies.2.1 43 = .ok (.aload_n 0, 1) := by decide +kernel
theorem dk_Tr_readDies_44 : decode mi_Tr_readDies.2.1 44 = .ok (.getfield 12, 3) := by decide +kernel
theorem dk_Tr_readDies_47 : decode mi_Tr_readDies.2.1 47 = .ok (.iload_n 1, 1) := by decide +kernel
theorem dk_Tr_readDies_48 : decode mi_Tr_readDies.2.1 48 = .ok (.iconst 3, 1) := by decide +kernel
theorem dk_Tr_readDies_49 : decode mi_Tr_readDies.2.1 49 = .ok (.invokevirtual 176, 3) := by decide +kernel
theorem dk_Tr_readDies_52 : decode mi_Tr_readDies.2.1 52 = .ok (.return_, 1) := by decide +kernel
def Tr_readDies_j35 (x1 : Int32) (σ : nm_St) : Option (Unit × nm_St) :=
  (if (σ.1 42 6) = (-1 : Int32) then
    ((Is_moveTo 43 x1 (3 : Int32) σ).bind fun q5 =>
    some ((), q5.2))
  else
    some ((), σ))
set_option maxRecDepth 100000 in
set_option maxHeartbeats 4000000 in
theorem r_Tr_readDies_j35 (X : nm_X) (F : nm_F) (hF0 : 3 ≤ nm_d F) (x1 : Int32) (σ : nm_St) : Rn X mi_Tr_readDies F (nm_Qf X F nm_wV) [(0, .ref 42), (1, .int x1)] [] 35 σ (Tr_readDies_j35 x1 σ) := by
  unfold Tr_readDies_j35
  refine rn_aload_n (pc := 35) 0 dk_Tr_readDies_35 rfl rfl rfl ?_
  refine gf_Tr_35 (pc := 36) rfl dk_Tr_readDies_36 ?_
  refine rn_iconst (pc := 39) (-1 : Int32) dk_Tr_readDies_39 cn_i_m1 ?_
  refine rn_icmp_ne (pc := 40) 52 dk_Tr_readDies_40 (by decide) (fun c4 => ?_) (fun c4 => ?_)
  · exact rn_vret rfl dk_Tr_readDies_52
  · refine rn_aload_n (pc := 43) 0 dk_Tr_readDies_43 rfl rfl rfl ?_
    refine gf_Tr_12 (pc := 44) rfl dk_Tr_readDies_44 ?_
    refine rn_iload_n (pc := 47) 1 dk_Tr_readDies_47 rfl rfl ?_
    refine rn_iconst (pc := 48) (3 : Int32) dk_Tr_readDies_48 cn_i_3 ?_
    refine cl_Tr_176 (pc := 49) (As := [.int x1, .int (3 : Int32)]) (st := []) 43 rfl rfl (ct_Is_moveTo X 43 rfl x1 (3 : Int32) σ) (Nat.le_trans (Nat.le_of_ble_eq_true rfl) hF0) rfl rfl (Nat.le_of_ble_eq_true rfl) dk_Tr_readDies_49 (fun q5 => ?_)
    exact rn_vret rfl dk_Tr_readDies_52
def Tr_readDies (σ : nm_St) : Option (Unit × nm_St) :=
  ((Tr_readNumber (0 : Int32) ((σ.1 43 6) - (1 : Int32)) σ).bind fun q1 =>
  ((Is_isAt 43 q1.1 (3 : Int32) q1.2).bind fun q2 =>
  (if q2.1 = 0 then
    Tr_readDies_j35 q1.1 q2.2
  else
    ((Tr_fail (q2.2.1 42 4) q2.2).bind fun q6 =>
    Tr_readDies_j35 q1.1 q6.2))))
set_option maxRecDepth 100000 in
set_option maxHeartbeats 4000000 in
theorem ct_Tr_readDies (X : nm_X) (σ : nm_St) : Ct X mi_Tr_readDies 3 nm_wV [.ref 42] σ (Tr_readDies σ) := by
  refine Ct.of (by decide +kernel) rfl (fun F hF0 => ?_)
  unfold Tr_readDies
  refine rn_aload_n (pc := 0) 0 dk_Tr_readDies_0 rfl rfl rfl ?_
  refine rn_iconst (pc := 1) (0 : Int32) dk_Tr_readDies_1 cn_i_0 ?_
  refine rn_aload_n (pc := 2) 0 dk_Tr_readDies_2 rfl rfl rfl ?_
  refine gf_Tr_12 (pc := 3) rfl dk_Tr_readDies_3 ?_
  refine gf_Tr_158 (pc := 6) 43 rfl rfl dk_Tr_readDies_6 ?_
  refine rn_iconst (pc := 9) (1 : Int32) dk_Tr_readDies_9 cn_i_1 ?_
  refine rn_isub (pc := 10) dk_Tr_readDies_10 ?_
  refine cl_Tr_147 (pc := 11) (As := [.int (0 : Int32), .int ((σ.1 43 6) - (1 : Int32))]) (st := []) rfl (ct_Tr_readNumber X (0 : Int32) ((σ.1 43 6) - (1 : Int32)) σ) (Nat.le_trans (Nat.le_of_ble_eq_true rfl) hF0) rfl rfl (Nat.le_of_ble_eq_true rfl) dk_Tr_readDies_11 (fun q1 => ?_)
  refine rn_istore_n (pc := 14) 1 dk_Tr_readDies_14 rfl rfl rfl ?_
  refine rn_aload_n (pc := 15) 0 dk_Tr_readDies_15 rfl rfl rfl ?_
  refine gf_Tr_12 (pc := 16) rfl dk_Tr_readDies_16 ?_
  refine rn_iload_n (pc := 19) 1 dk_Tr_readDies_19 rfl rfl ?_
  refine rn_iconst (pc := 20) (3 : Int32) dk_Tr_readDies_20 cn_i_3 ?_
  refine cl_Tr_172 (pc := 21) (As := [.int q1.1, .int (3 : Int32)]) (st := []) 43 rfl rfl (ct_Is_isAt X 43 rfl q1.1 (3 : Int32) q1.2) (Nat.le_trans (Nat.le_of_ble_eq_true rfl) hF0) rfl rfl (Nat.le_of_ble_eq_true rfl) dk_Tr_readDies_21 (fun q2 => ?_)
  refine rn_if_eq (pc := 24) 35 dk_Tr_readDies_24 (by decide) (fun c3 => ?_) (fun c3 => ?_)
  · exact rn_sub (by rfl) (r_Tr_readDies_j35 X F hF0 q1.1 q2.2)
  · refine rn_aload_n (pc := 27) 0 dk_Tr_readDies_27 rfl rfl rfl ?_
    refine rn_aload_n (pc := 28) 0 dk_Tr_readDies_28 rfl rfl rfl ?_
    refine gf_Tr_29 (pc := 29) rfl dk_Tr_readDies_29 ?_
    refine cl_Tr_70 (pc := 32) (As := [.int (q2.2.1 42 4)]) (st := []) rfl (ct_Tr_fail X (q2.2.1 42 4) q2.2) (Nat.le_trans (Nat.le_of_ble_eq_true rfl) hF0) rfl rfl (Nat.le_of_ble_eq_true rfl) dk_Tr_readDies_32 (fun q6 => ?_)
    exact rn_sub (by rfl) (r_Tr_readDies_j35 X F hF0 q1.1 q6.2)
theorem dk_Tr_readFear_0 : decode mi_Tr_readFear.2.1 0 = .ok (.aload_n 0, 1) := by decide +kernel
theorem dk_Tr_readFear_1 : decode mi_Tr_readFear.2.1 1 = .ok (.iconst 0, 1) := by decide +kernel
theorem dk_Tr_readFear_2 : decode mi_Tr_readFear.2.1 2 = .ok (.bipush 99, 2) := by decide +kernel
theorem dk_Tr_readFear_4 : decode mi_Tr_readFear.2.1 4 = .ok (.invokevirtual 147, 3) := by decide +kernel
theorem dk_Tr_readFear_7 : decode mi_Tr_readFear.2.1 7 = .ok (.istore_n 1, 1) := by decide +kernel
theorem dk_Tr_readFear_8 : decode mi_Tr_readFear.2.1 8 = .ok (.aload_n 0, 1) := by decide +kernel
theorem dk_Tr_readFear_9 : decode mi_Tr_readFear.2.1 9 = .ok (.getfield 35, 3) := by decide +kernel
theorem dk_Tr_readFear_12 : decode mi_Tr_readFear.2.1 12 = .ok (.iconst (-1), 1) := by decide +kernel
theorem dk_Tr_readFear_13 : decode mi_Tr_readFear.2.1 13 = .ok (.if_icmp .ne 11, 3) := by decide +kernel
theorem dk_Tr_readFear_16 : decode mi_Tr_readFear.2.1 16 = .ok (.aload_n 0, 1) := by decide +kernel
theorem dk_Tr_readFear_17 : decode mi_Tr_readFear.2.1 17 = .ok (.getfield 12, 3) := by decide +kernel
theorem dk_Tr_readFear_20 : decode mi_Tr_readFear.2.1 20 = .ok (.iload_n 1, 1) := by decide +kernel
theorem dk_Tr_readFear_21 : decode mi_Tr_readFear.2.1 21 = .ok (.putfield 168, 3) := by decide +kernel
theorem dk_Tr_readFear_24 : decode mi_Tr_readFear.2.1 24 = .ok (.return_, 1) := by decide +kernel
def Tr_readFear (σ : nm_St) : Option (Unit × nm_St) :=
  ((Tr_readNumber (0 : Int32) (99 : Int32) σ).bind fun q1 =>
  (if (q1.2.1 42 6) = (-1 : Int32) then
    (nm_let (nm_pI q1.2 43 8 q1.1) fun s3 =>
    some ((), s3))
  else
    some ((), q1.2)))
set_option maxRecDepth 100000 in
set_option maxHeartbeats 4000000 in
theorem ct_Tr_readFear (X : nm_X) (σ : nm_St) : Ct X mi_Tr_readFear 3 nm_wV [.ref 42] σ (Tr_readFear σ) := by
  refine Ct.of (by decide +kernel) rfl (fun F hF0 => ?_)
  unfold Tr_readFear
  refine rn_aload_n (pc := 0) 0 dk_Tr_readFear_0 rfl rfl rfl ?_
  refine rn_iconst (pc := 1) (0 : Int32) dk_Tr_readFear_1 cn_i_0 ?_
  refine rn_bipush (pc := 2) (99 : Int32) dk_Tr_readFear_2 cn_b_99 ?_
  refine cl_Tr_147 (pc := 4) (As := [.int (0 : Int32), .int (99 : Int32)]) (st := []) rfl (ct_Tr_readNumber X (0 : Int32) (99 : Int32) σ) (Nat.le_trans (Nat.le_of_ble_eq_true rfl) hF0) rfl rfl (Nat.le_of_ble_eq_true rfl) dk_Tr_readFear_4 (fun q1 => ?_)
  refine rn_istore_n (pc := 7) 1 dk_Tr_readFear_7 rfl rfl rfl ?_
  refine rn_aload_n (pc := 8) 0 dk_Tr_readFear_8 rfl rfl rfl ?_
  refine gf_Tr_35 (pc := 9) rfl dk_Tr_readFear_9 ?_
  refine rn_iconst (pc := 12) (-1 : Int32) dk_Tr_readFear_12 cn_i_m1 ?_
  refine rn_icmp_ne (pc := 13) 24 dk_Tr_readFear_13 (by decide) (fun c2 => ?_) (fun c2 => ?_)
  · exact rn_vret rfl dk_Tr_readFear_24
  · refine rn_aload_n (pc := 16) 0 dk_Tr_readFear_16 rfl rfl rfl ?_
    refine gf_Tr_12 (pc := 17) rfl dk_Tr_readFear_17 ?_
    refine rn_iload_n (pc := 20) 1 dk_Tr_readFear_20 rfl rfl ?_
    refine pf_Tr_168 (pc := 21) 43 rfl rfl dk_Tr_readFear_21 ?_
    refine rn_lets (fun s3 => ?_)
    exact rn_vret rfl dk_Tr_readFear_24
theorem dk_Tr_readGoes_0 : decode mi_Tr_readGoes.2.1 0 = .ok (.aload_n 0, 1) := by decide +kernel
theorem dk_Tr_readGoes_1 : decode mi_Tr_readGoes.2.1 1 = .ok (.iconst 0, 1) := by decide +kernel
theorem dk_Tr_readGoes_2 : decode mi_Tr_readGoes.2.1 2 = .ok (.aload_n 0, 1) := by decide +kernel
theorem dk_Tr_readGoes_3 : decode mi_Tr_readGoes.2.1 3 = .ok (.getfield 12, 3) := by decide +kernel
theorem dk_Tr_readGoes_6 : decode mi_Tr_readGoes.2.1 6 = .ok (.getfield 158, 3) := by decide +kernel
theorem dk_Tr_readGoes_9 : decode mi_Tr_readGoes.2.1 9 = .ok (.iconst 1, 1) := by decide +kernel
theorem dk_Tr_readGoes_10 : decode mi_Tr_readGoes.2.1 10 = .ok (.isub, 1) := by decide +kernel
theorem dk_Tr_readGoes_11 : decode mi_Tr_readGoes.2.1 11 = .ok (.invokevirtual 147, 3) := by decide +kernel
theorem dk_Tr_readGoes_14 : decode mi_Tr_readGoes.2.1 14 = .ok (.istore_n 1, 1) := by decide +kernel
theorem dk_Tr_readGoes_15 : decode mi_Tr_readGoes.2.1 15 = .ok (.aload_n 0, 1) := by decide +kernel
theorem dk_Tr_readGoes_16 : decode mi_Tr_readGoes.2.1 16 = .ok (.getfield 12, 3) := by decide +kernel
theorem dk_Tr_readGoes_19 : decode mi_Tr_readGoes.2.1 19 = .ok (.iload_n 1, 1) := by decide +kernel
theorem dk_Tr_readGoes_20 : decode mi_Tr_readGoes.2.1 20 = .ok (.iconst 0, 1) := by decide +kernel
theorem dk_Tr_readGoes_21 : decode mi_Tr_readGoes.2.1 21 = .ok (.invokevirtual 172, 3) := by decide +kernel
theorem dk_Tr_readGoes_24 : decode mi_Tr_readGoes.2.1 24 = .ok (.ifCond .ne 11, 3) := by decide +kernel
theorem dk_Tr_readGoes_27 : decode mi_Tr_readGoes.2.1 27 = .ok (.aload_n 0, 1) := by decide +kernel
theorem dk_Tr_readGoes_28 : decode mi_Tr_readGoes.2.1 28 = .ok (.aload_n 0, 1) := by decide +kernel
theorem dk_Tr_readGoes_29 : decode mi_Tr_readGoes.2.1 29 = .ok (.getfield 29, 3) := by decide +kernel
theorem dk_Tr_readGoes_32 : decode mi_Tr_readGoes.2.1 32 = .ok (.invokevirtual 70, 3) := by decide +kernel
theorem dk_Tr_readGoes_35 : decode mi_Tr_readGoes.2.1 35 = .ok (.aload_n 0, 1) := by decide +kernel
theorem dk_Tr_readGoes_36 : decode mi_Tr_readGoes.2.1 36 = .ok (.getfield 35, 3) := by decide +kernel
theorem dk_Tr_readGoes_39 : decode mi_Tr_readGoes.2.1 39 = .ok (.iconst (-1), 1) := by decide +kernel
theorem dk_Tr_readGoes_40 : decode mi_Tr_readGoes.2.1 40 = .ok (.if_icmp .ne 12, 3) := by decide +kernel
theorem dk_Tr_readGoes_43 : decode mi_Tr_readGoes.2.1 43 = .ok (.aload_n 0, 1) := by decide +kernel
theorem dk_Tr_readGoes_44 : decode mi_Tr_readGoes.2.1 44 = .ok (.getfield 12, 3) := by decide +kernel
theorem dk_Tr_readGoes_47 : decode mi_Tr_readGoes.2.1 47 = .ok (.iload_n 1, 1) := by decide +kernel
theorem dk_Tr_readGoes_48 : decode mi_Tr_readGoes.2.1 48 = .ok (.iconst 1, 1) := by decide +kernel
theorem dk_Tr_readGoes_49 : decode mi_Tr_readGoes.2.1 49 = .ok (.invokevirtual 176, 3) := by decide +kernel
theorem dk_Tr_readGoes_52 : decode mi_Tr_readGoes.2.1 52 = .ok (.return_, 1) := by decide +kernel
def Tr_readGoes_j35 (x1 : Int32) (σ : nm_St) : Option (Unit × nm_St) :=
  (if (σ.1 42 6) = (-1 : Int32) then
    ((Is_moveTo 43 x1 (1 : Int32) σ).bind fun q5 =>
    some ((), q5.2))
  else
    some ((), σ))
set_option maxRecDepth 100000 in
set_option maxHeartbeats 4000000 in
theorem r_Tr_readGoes_j35 (X : nm_X) (F : nm_F) (hF0 : 3 ≤ nm_d F) (x1 : Int32) (σ : nm_St) : Rn X mi_Tr_readGoes F (nm_Qf X F nm_wV) [(0, .ref 42), (1, .int x1)] [] 35 σ (Tr_readGoes_j35 x1 σ) := by
  unfold Tr_readGoes_j35
  refine rn_aload_n (pc := 35) 0 dk_Tr_readGoes_35 rfl rfl rfl ?_
  refine gf_Tr_35 (pc := 36) rfl dk_Tr_readGoes_36 ?_
  refine rn_iconst (pc := 39) (-1 : Int32) dk_Tr_readGoes_39 cn_i_m1 ?_
  refine rn_icmp_ne (pc := 40) 52 dk_Tr_readGoes_40 (by decide) (fun c4 => ?_) (fun c4 => ?_)
  · exact rn_vret rfl dk_Tr_readGoes_52
  · refine rn_aload_n (pc := 43) 0 dk_Tr_readGoes_43 rfl rfl rfl ?_
    refine gf_Tr_12 (pc := 44) rfl dk_Tr_readGoes_44 ?_
    refine rn_iload_n (pc := 47) 1 dk_Tr_readGoes_47 rfl rfl ?_
    refine rn_iconst (pc := 48) (1 : Int32) dk_Tr_readGoes_48 cn_i_1 ?_
    refine cl_Tr_176 (pc := 49) (As := [.int x1, .int (1 : Int32)]) (st := []) 43 rfl rfl (ct_Is_moveTo X 43 rfl x1 (1 : Int32) σ) (Nat.le_trans (Nat.le_of_ble_eq_true rfl) hF0) rfl rfl (Nat.le_of_ble_eq_true rfl) dk_Tr_readGoes_49 (fun q5 => ?_)
    exact rn_vret rfl dk_Tr_readGoes_52
def Tr_readGoes (σ : nm_St) : Option (Unit × nm_St) :=
  ((Tr_readNumber (0 : Int32) ((σ.1 43 6) - (1 : Int32)) σ).bind fun q1 =>
  ((Is_isAt 43 q1.1 (0 : Int32) q1.2).bind fun q2 =>
  (if q2.1 = 0 then
    ((Tr_fail (q2.2.1 42 4) q2.2).bind fun q6 =>
    Tr_readGoes_j35 q1.1 q6.2)
  else
    Tr_readGoes_j35 q1.1 q2.2)))
set_option maxRecDepth 100000 in
set_option maxHeartbeats 4000000 in
theorem ct_Tr_readGoes (X : nm_X) (σ : nm_St) : Ct X mi_Tr_readGoes 3 nm_wV [.ref 42] σ (Tr_readGoes σ) := by
  refine Ct.of (by decide +kernel) rfl (fun F hF0 => ?_)
  unfold Tr_readGoes
  refine rn_aload_n (pc := 0) 0 dk_Tr_readGoes_0 rfl rfl rfl ?_
  refine rn_iconst (pc := 1) (0 : Int32) dk_Tr_readGoes_1 cn_i_0 ?_
  refine rn_aload_n (pc := 2) 0 dk_Tr_readGoes_2 rfl rfl rfl ?_
  refine gf_Tr_12 (pc := 3) rfl dk_Tr_readGoes_3 ?_
  refine gf_Tr_158 (pc := 6) 43 rfl rfl dk_Tr_readGoes_6 ?_
  refine rn_iconst (pc := 9) (1 : Int32) dk_Tr_readGoes_9 cn_i_1 ?_
  refine rn_isub (pc := 10) dk_Tr_readGoes_10 ?_
  refine cl_Tr_147 (pc := 11) (As := [.int (0 : Int32), .int ((σ.1 43 6) - (1 : Int32))]) (st := []) rfl (ct_Tr_readNumber X (0 : Int32) ((σ.1 43 6) - (1 : Int32)) σ) (Nat.le_trans (Nat.le_of_ble_eq_true rfl) hF0) rfl rfl (Nat.le_of_ble_eq_true rfl) dk_Tr_readGoes_11 (fun q1 => ?_)
  refine rn_istore_n (pc := 14) 1 dk_Tr_readGoes_14 rfl rfl rfl ?_
  refine rn_aload_n (pc := 15) 0 dk_Tr_readGoes_15 rfl rfl rfl ?_
  refine gf_Tr_12 (pc := 16) rfl dk_Tr_readGoes_16 ?_
  refine rn_iload_n (pc := 19) 1 dk_Tr_readGoes_19 rfl rfl ?_
  refine rn_iconst (pc := 20) (0 : Int32) dk_Tr_readGoes_20 cn_i_0 ?_
  refine cl_Tr_172 (pc := 21) (As := [.int q1.1, .int (0 : Int32)]) (st := []) 43 rfl rfl (ct_Is_isAt X 43 rfl q1.1 (0 : Int32) q1.2) (Nat.le_trans (Nat.le_of_ble_eq_true rfl) hF0) rfl rfl (Nat.le_of_ble_eq_true rfl) dk_Tr_readGoes_21 (fun q2 => ?_)
  refine rn_if_ne (pc := 24) 35 dk_Tr_readGoes_24 (by decide) (fun c3 => ?_) (fun c3 => ?_)
  · exact rn_sub (by rfl) (r_Tr_readGoes_j35 X F hF0 q1.1 q2.2)
  · refine rn_aload_n (pc := 27) 0 dk_Tr_readGoes_27 rfl rfl rfl ?_
    refine rn_aload_n (pc := 28) 0 dk_Tr_readGoes_28 rfl rfl rfl ?_
    refine gf_Tr_29 (pc := 29) rfl dk_Tr_readGoes_29 ?_
    refine cl_Tr_70 (pc := 32) (As := [.int (q2.2.1 42 4)]) (st := []) rfl (ct_Tr_fail X (q2.2.1 42 4) q2.2) (Nat.le_trans (Nat.le_of_ble_eq_true rfl) hF0) rfl rfl (Nat.le_of_ble_eq_true rfl) dk_Tr_readGoes_32 (fun q6 => ?_)
    exact rn_sub (by rfl) (r_Tr_readGoes_j35 X F hF0 q1.1 q6.2)
theorem dk_Tr_readKin_0 : decode mi_Tr_readKin.2.1 0 = .ok (.aload_n 0, 1) := by decide +kernel
theorem dk_Tr_readKin_1 : decode mi_Tr_readKin.2.1 1 = .ok (.iconst 0, 1) := by decide +kernel
theorem dk_Tr_readKin_2 : decode mi_Tr_readKin.2.1 2 = .ok (.aload_n 0, 1) := by decide +kernel
theorem dk_Tr_readKin_3 : decode mi_Tr_readKin.2.1 3 = .ok (.getfield 12, 3) := by decide +kernel
theorem dk_Tr_readKin_6 : decode mi_Tr_readKin.2.1 6 = .ok (.getfield 158, 3) := by decide +kernel
theorem dk_Tr_readKin_9 : decode mi_Tr_readKin.2.1 9 = .ok (.iconst 1, 1) := by decide +kernel
theorem dk_Tr_readKin_10 : decode mi_Tr_readKin.2.1 10 = .ok (.isub, 1) := by decide +kernel
theorem dk_Tr_readKin_11 : decode mi_Tr_readKin.2.1 11 = .ok (.invokevirtual 147, 3) := by decide +kernel
theorem dk_Tr_readKin_14 : decode mi_Tr_readKin.2.1 14 = .ok (.istore_n 1, 1) := by decide +kernel
theorem dk_Tr_readKin_15 : decode mi_Tr_readKin.2.1 15 = .ok (.aload_n 0, 1) := by decide +kernel
theorem dk_Tr_readKin_16 : decode mi_Tr_readKin.2.1 16 = .ok (.iconst 0, 1) := by decide +kernel
theorem dk_Tr_readKin_17 : decode mi_Tr_readKin.2.1 17 = .ok (.aload_n 0, 1) := by decide +kernel
theorem dk_Tr_readKin_18 : decode mi_Tr_readKin.2.1 18 = .ok (.getfield 12, 3) := by decide +kernel
theorem dk_Tr_readKin_21 : decode mi_Tr_readKin.2.1 21 = .ok (.getfield 158, 3) := by decide +kernel
theorem dk_Tr_readKin_24 : decode mi_Tr_readKin.2.1 24 = .ok (.iconst 1, 1) := by decide +kernel
theorem dk_Tr_readKin_25 : decode mi_Tr_readKin.2.1 25 = .ok (.isub, 1) := by decide +kernel
theorem dk_Tr_readKin_26 : decode mi_Tr_readKin.2.1 26 = .ok (.invokevirtual 147, 3) := by decide +kernel
theorem dk_Tr_readKin_29 : decode mi_Tr_readKin.2.1 29 = .ok (.istore_n 2, 1) := by decide +kernel
theorem dk_Tr_readKin_30 : decode mi_Tr_readKin.2.1 30 = .ok (.iload_n 1, 1) := by decide +kernel
theorem dk_Tr_readKin_31 : decode mi_Tr_readKin.2.1 31 = .ok (.iload_n 2, 1) := by decide +kernel
theorem dk_Tr_readKin_32 : decode mi_Tr_readKin.2.1 32 = .ok (.if_icmp .ne 11, 3) := by decide +kernel
theorem dk_Tr_readKin_35 : decode mi_Tr_readKin.2.1 35 = .ok (.aload_n 0, 1) := by decide +kernel
theorem dk_Tr_readKin_36 : decode mi_Tr_readKin.2.1 36 = .ok (.aload_n 0, 1) := by decide +kernel
theorem dk_Tr_readKin_37 : decode mi_Tr_readKin.2.1 37 = .ok (.getfield 29, 3) := by decide +kernel
theorem dk_Tr_readKin_40 : decode mi_Tr_readKin.2.1 40 = .ok (.invokevirtual 70, 3) := by decide +kernel
theorem dk_Tr_readKin_43 : decode mi_Tr_readKin.2.1 43 = .ok (.aload_n 0, 1) := by decide +kernel
theorem dk_Tr_readKin_44 : decode mi_Tr_readKin.2.1 44 = .ok (.getfield 35, 3) := by decide +kernel
theorem dk_Tr_readKin_47 : decode mi_Tr_readKin.2.1 47 = .ok (.iconst (-1), 1) := by decide +kernel
theorem dk_Tr_readKin_48 : decode mi_Tr_readKin.2.1 48 = .ok (.if_icmp .ne 14, 3) := by decide +kernel
theorem dk_Tr_readKin_51 : decode mi_Tr_readKin.2.1 51 = .ok (.aload_n 0, 1) := by decide +kernel
theorem dk_Tr_readKin_52 : decode mi_Tr_readKin.2.1 52 = .ok (.getfield 12, 3) := by decide +kernel
theorem dk_Tr_readKin_55 : decode mi_Tr_readKin.2.1 55 = .ok (.iload_n 1, 1) := by decide +kernel
theorem dk_Tr_readKin_56 : decode mi_Tr_readKin.2.1 56 = .ok (.iload_n 2, 1) := by decide +kernel
theorem dk_Tr_readKin_57 : decode mi_Tr_readKin.2.1 57 = .ok (.iconst 1, 1) := by decide +kernel
theorem dk_Tr_readKin_58 : decode mi_Tr_readKin.2.1 58 = .ok (.invokevirtual 165, 3) := by decide +kernel
theorem dk_Tr_readKin_61 : decode mi_Tr_readKin.2.1 61 = .ok (.pop, 1) := by decide +kernel
theorem dk_Tr_readKin_62 : decode mi_Tr_readKin.2.1 62 = .ok (.return_, 1) := by decide +kernel
def Tr_readKin_j43 (x1 : Int32) (x2 : Int32) (σ : nm_St) : Option (Unit × nm_St) :=
  (if (σ.1 42 6) = (-1 : Int32) then
    ((Is_join 43 x1 x2 (1 : Int32) σ).bind fun q5 =>
    some ((), q5.2))
  else
    some ((), σ))
set_option maxRecDepth 100000 in
set_option maxHeartbeats 4000000 in
theorem r_Tr_readKin_j43 (X : nm_X) (F : nm_F) (hF0 : 3 ≤ nm_d F) (x1 : Int32) (x2 : Int32) (σ : nm_St) : Rn X mi_Tr_readKin F (nm_Qf X F nm_wV) [(0, .ref 42), (1, .int x1), (2, .int x2)] [] 43 σ (Tr_readKin_j43 x1 x2 σ) := by
  unfold Tr_readKin_j43
  refine rn_aload_n (pc := 43) 0 dk_Tr_readKin_43 rfl rfl rfl ?_
  refine gf_Tr_35 (pc := 44) rfl dk_Tr_readKin_44 ?_
  refine rn_iconst (pc := 47) (-1 : Int32) dk_Tr_readKin_47 cn_i_m1 ?_
  refine rn_icmp_ne (pc := 48) 62 dk_Tr_readKin_48 (by decide) (fun c4 => ?_) (fun c4 => ?_)
  · exact rn_vret rfl dk_Tr_readKin_62
  · refine rn_aload_n (pc := 51) 0 dk_Tr_readKin_51 rfl rfl rfl ?_
    refine gf_Tr_12 (pc := 52) rfl dk_Tr_readKin_52 ?_
    refine rn_iload_n (pc := 55) 1 dk_Tr_readKin_55 rfl rfl ?_
    refine rn_iload_n (pc := 56) 2 dk_Tr_readKin_56 rfl rfl ?_
    refine rn_iconst (pc := 57) (1 : Int32) dk_Tr_readKin_57 cn_i_1 ?_
    refine cl_Tr_165 (pc := 58) (As := [.int x1, .int x2, .int (1 : Int32)]) (st := []) 43 rfl rfl (ct_Is_join X 43 rfl x1 x2 (1 : Int32) σ) (Nat.le_trans (Nat.le_of_ble_eq_true rfl) hF0) rfl rfl (Nat.le_of_ble_eq_true rfl) dk_Tr_readKin_58 (fun q5 => ?_)
    refine rn_pop (pc := 61) dk_Tr_readKin_61 rfl ?_
    exact rn_vret rfl dk_Tr_readKin_62
def Tr_readKin (σ : nm_St) : Option (Unit × nm_St) :=
  ((Tr_readNumber (0 : Int32) ((σ.1 43 6) - (1 : Int32)) σ).bind fun q1 =>
  ((Tr_readNumber (0 : Int32) ((q1.2.1 43 6) - (1 : Int32)) q1.2).bind fun q2 =>
  (if q1.1 = q2.1 then
    ((Tr_fail (q2.2.1 42 4) q2.2).bind fun q6 =>
    Tr_readKin_j43 q1.1 q2.1 q6.2)
  else
    Tr_readKin_j43 q1.1 q2.1 q2.2)))
set_option maxRecDepth 100000 in
set_option maxHeartbeats 4000000 in
theorem ct_Tr_readKin (X : nm_X) (σ : nm_St) : Ct X mi_Tr_readKin 3 nm_wV [.ref 42] σ (Tr_readKin σ) := by
  refine Ct.of (by decide +kernel) rfl (fun F hF0 => ?_)
  unfold Tr_readKin
  refine rn_aload_n (pc := 0) 0 dk_Tr_readKin_0 rfl rfl rfl ?_
  refine rn_iconst (pc := 1) (0 : Int32) dk_Tr_readKin_1 cn_i_0 ?_
  refine rn_aload_n (pc := 2) 0 dk_Tr_readKin_2 rfl rfl rfl ?_
  refine gf_Tr_12 (pc := 3) rfl dk_Tr_readKin_3 ?_
  refine gf_Tr_158 (pc := 6) 43 rfl rfl dk_Tr_readKin_6 ?_
  refine rn_iconst (pc := 9) (1 : Int32) dk_Tr_readKin_9 cn_i_1 ?_
  refine rn_isub (pc := 10) dk_Tr_readKin_10 ?_
  refine cl_Tr_147 (pc := 11) (As := [.int (0 : Int32), .int ((σ.1 43 6) - (1 : Int32))]) (st := []) rfl (ct_Tr_readNumber X (0 : Int32) ((σ.1 43 6) - (1 : Int32)) σ) (Nat.le_trans (Nat.le_of_ble_eq_true rfl) hF0) rfl rfl (Nat.le_of_ble_eq_true rfl) dk_Tr_readKin_11 (fun q1 => ?_)
  refine rn_istore_n (pc := 14) 1 dk_Tr_readKin_14 rfl rfl rfl ?_
  refine rn_aload_n (pc := 15) 0 dk_Tr_readKin_15 rfl rfl rfl ?_
  refine rn_iconst (pc := 16) (0 : Int32) dk_Tr_readKin_16 cn_i_0 ?_
  refine rn_aload_n (pc := 17) 0 dk_Tr_readKin_17 rfl rfl rfl ?_
  refine gf_Tr_12 (pc := 18) rfl dk_Tr_readKin_18 ?_
  refine gf_Tr_158 (pc := 21) 43 rfl rfl dk_Tr_readKin_21 ?_
  refine rn_iconst (pc := 24) (1 : Int32) dk_Tr_readKin_24 cn_i_1 ?_
  refine rn_isub (pc := 25) dk_Tr_readKin_25 ?_
  refine cl_Tr_147 (pc := 26) (As := [.int (0 : Int32), .int ((q1.2.1 43 6) - (1 : Int32))]) (st := []) rfl (ct_Tr_readNumber X (0 : Int32) ((q1.2.1 43 6) - (1 : Int32)) q1.2) (Nat.le_trans (Nat.le_of_ble_eq_true rfl) hF0) rfl rfl (Nat.le_of_ble_eq_true rfl) dk_Tr_readKin_26 (fun q2 => ?_)
  refine rn_istore_n (pc := 29) 2 dk_Tr_readKin_29 rfl rfl rfl ?_
  refine rn_iload_n (pc := 30) 1 dk_Tr_readKin_30 rfl rfl ?_
  refine rn_iload_n (pc := 31) 2 dk_Tr_readKin_31 rfl rfl ?_
  refine rn_icmp_ne (pc := 32) 43 dk_Tr_readKin_32 (by decide) (fun c3 => ?_) (fun c3 => ?_)
  · exact rn_sub (by rfl) (r_Tr_readKin_j43 X F hF0 q1.1 q2.1 q2.2)
  · refine rn_aload_n (pc := 35) 0 dk_Tr_readKin_35 rfl rfl rfl ?_
    refine rn_aload_n (pc := 36) 0 dk_Tr_readKin_36 rfl rfl rfl ?_
    refine gf_Tr_29 (pc := 37) rfl dk_Tr_readKin_37 ?_
    refine cl_Tr_70 (pc := 40) (As := [.int (q2.2.1 42 4)]) (st := []) rfl (ct_Tr_fail X (q2.2.1 42 4) q2.2) (Nat.le_trans (Nat.le_of_ble_eq_true rfl) hF0) rfl rfl (Nat.le_of_ble_eq_true rfl) dk_Tr_readKin_40 (fun q6 => ?_)
    exact rn_sub (by rfl) (r_Tr_readKin_j43 X F hF0 q1.1 q2.1 q6.2)
theorem dk_Tr_readKnows_0 : decode mi_Tr_readKnows.2.1 0 = .ok (.aload_n 0, 1) := by decide +kernel
theorem dk_Tr_readKnows_1 : decode mi_Tr_readKnows.2.1 1 = .ok (.iconst 0, 1) := by decide +kernel
theorem dk_Tr_readKnows_2 : decode mi_Tr_readKnows.2.1 2 = .ok (.aload_n 0, 1) := by decide +kernel
theorem dk_Tr_readKnows_3 : decode mi_Tr_readKnows.2.1 3 = .ok (.getfield 12, 3) := by decide +kernel
theorem dk_Tr_readKnows_6 : decode mi_Tr_readKnows.2.1 6 = .ok (.getfield 158, 3) := by decide +kernel
theorem dk_Tr_readKnows_9 : decode mi_Tr_readKnows.2.1 9 = .ok (.iconst 1, 1) := by decide +kernel
theorem dk_Tr_readKnows_10 : decode mi_Tr_readKnows.2.1 10 = .ok (.isub, 1) := by decide +kernel
theorem dk_Tr_readKnows_11 : decode mi_Tr_readKnows.2.1 11 = .ok (.invokevirtual 147, 3) := by decide +kernel
theorem dk_Tr_readKnows_14 : decode mi_Tr_readKnows.2.1 14 = .ok (.istore_n 1, 1) := by decide +kernel
theorem dk_Tr_readKnows_15 : decode mi_Tr_readKnows.2.1 15 = .ok (.aload_n 0, 1) := by decide +kernel
theorem dk_Tr_readKnows_16 : decode mi_Tr_readKnows.2.1 16 = .ok (.iconst 0, 1) := by decide +kernel
theorem dk_Tr_readKnows_17 : decode mi_Tr_readKnows.2.1 17 = .ok (.aload_n 0, 1) := by decide +kernel
theorem dk_Tr_readKnows_18 : decode mi_Tr_readKnows.2.1 18 = .ok (.getfield 12, 3) := by decide +kernel
theorem dk_Tr_readKnows_21 : decode mi_Tr_readKnows.2.1 21 = .ok (.getfield 145, 3) := by decide +kernel
theorem dk_Tr_readKnows_24 : decode mi_Tr_readKnows.2.1 24 = .ok (.iconst 1, 1) := by decide +kernel
theorem dk_Tr_readKnows_25 : decode mi_Tr_readKnows.2.1 25 = .ok (.isub, 1) := by decide +kernel
theorem dk_Tr_readKnows_26 : decode mi_Tr_readKnows.2.1 26 = .ok (.invokevirtual 147, 3) := by decide +kernel
theorem dk_Tr_readKnows_29 : decode mi_Tr_readKnows.2.1 29 = .ok (.istore_n 2, 1) := by decide +kernel
theorem dk_Tr_readKnows_30 : decode mi_Tr_readKnows.2.1 30 = .ok (.aload_n 0, 1) := by decide +kernel
theorem dk_Tr_readKnows_31 : decode mi_Tr_readKnows.2.1 31 = .ok (.getfield 35, 3) := by decide +kernel
theorem dk_Tr_readKnows_34 : decode mi_Tr_readKnows.2.1 34 = .ok (.iconst (-1), 1) := by decide +kernel
theorem dk_Tr_readKnows_35 : decode mi_Tr_readKnows.2.1 35 = .ok (.if_icmp .ne 14, 3) := by decide +kernel
theorem dk_Tr_readKnows_38 : decode mi_Tr_readKnows.2.1 38 = .ok (.aload_n 0, 1) := by decide +kernel
theorem dk_Tr_readKnows_39 : decode mi_Tr_readKnows.2.1 39 = .ok (.getfield 12, 3) := by decide +kernel
theorem dk_Tr_readKnows_42 : decode mi_Tr_readKnows.2.1 42 = .ok (.iload_n 1, 1) := by decide +kernel
theorem dk_Tr_readKnows_43 : decode mi_Tr_readKnows.2.1 43 = .ok (.iload_n 2, 1) := by decide +kernel
theorem dk_Tr_readKnows_44 : decode mi_Tr_readKnows.2.1 44 = .ok (.iconst 1, 1) := by decide +kernel
theorem dk_Tr_readKnows_45 : decode mi_Tr_readKnows.2.1 45 = .ok (.invokevirtual 161, 3) := by decide +kernel
theorem dk_Tr_readKnows_48 : decode mi_Tr_readKnows.2.1 48 = .ok (.pop, 1) := by decide +kernel
theorem dk_Tr_readKnows_49 : decode mi_Tr_readKnows.2.1 49 = .ok (.return_, 1) := by decide +kernel
def Tr_readKnows (σ : nm_St) : Option (Unit × nm_St) :=
  ((Tr_readNumber (0 : Int32) ((σ.1 43 6) - (1 : Int32)) σ).bind fun q1 =>
  ((Tr_readNumber (0 : Int32) ((q1.2.1 43 7) - (1 : Int32)) q1.2).bind fun q2 =>
  (if (q2.2.1 42 6) = (-1 : Int32) then
    ((Is_learn 43 q1.1 q2.1 (1 : Int32) q2.2).bind fun q4 =>
    some ((), q4.2))
  else
    some ((), q2.2))))
set_option maxRecDepth 100000 in
set_option maxHeartbeats 4000000 in
theorem ct_Tr_readKnows (X : nm_X) (σ : nm_St) : Ct X mi_Tr_readKnows 3 nm_wV [.ref 42] σ (Tr_readKnows σ) := by
  refine Ct.of (by decide +kernel) rfl (fun F hF0 => ?_)
  unfold Tr_readKnows
  refine rn_aload_n (pc := 0) 0 dk_Tr_readKnows_0 rfl rfl rfl ?_
  refine rn_iconst (pc := 1) (0 : Int32) dk_Tr_readKnows_1 cn_i_0 ?_
  refine rn_aload_n (pc := 2) 0 dk_Tr_readKnows_2 rfl rfl rfl ?_
  refine gf_Tr_12 (pc := 3) rfl dk_Tr_readKnows_3 ?_
  refine gf_Tr_158 (pc := 6) 43 rfl rfl dk_Tr_readKnows_6 ?_
  refine rn_iconst (pc := 9) (1 : Int32) dk_Tr_readKnows_9 cn_i_1 ?_
  refine rn_isub (pc := 10) dk_Tr_readKnows_10 ?_
  refine cl_Tr_147 (pc := 11) (As := [.int (0 : Int32), .int ((σ.1 43 6) - (1 : Int32))]) (st := []) rfl (ct_Tr_readNumber X (0 : Int32) ((σ.1 43 6) - (1 : Int32)) σ) (Nat.le_trans (Nat.le_of_ble_eq_true rfl) hF0) rfl rfl (Nat.le_of_ble_eq_true rfl) dk_Tr_readKnows_11 (fun q1 => ?_)
  refine rn_istore_n (pc := 14) 1 dk_Tr_readKnows_14 rfl rfl rfl ?_
  refine rn_aload_n (pc := 15) 0 dk_Tr_readKnows_15 rfl rfl rfl ?_
  refine rn_iconst (pc := 16) (0 : Int32) dk_Tr_readKnows_16 cn_i_0 ?_
  refine rn_aload_n (pc := 17) 0 dk_Tr_readKnows_17 rfl rfl rfl ?_
  refine gf_Tr_12 (pc := 18) rfl dk_Tr_readKnows_18 ?_
  refine gf_Tr_145 (pc := 21) 43 rfl rfl dk_Tr_readKnows_21 ?_
  refine rn_iconst (pc := 24) (1 : Int32) dk_Tr_readKnows_24 cn_i_1 ?_
  refine rn_isub (pc := 25) dk_Tr_readKnows_25 ?_
  refine cl_Tr_147 (pc := 26) (As := [.int (0 : Int32), .int ((q1.2.1 43 7) - (1 : Int32))]) (st := []) rfl (ct_Tr_readNumber X (0 : Int32) ((q1.2.1 43 7) - (1 : Int32)) q1.2) (Nat.le_trans (Nat.le_of_ble_eq_true rfl) hF0) rfl rfl (Nat.le_of_ble_eq_true rfl) dk_Tr_readKnows_26 (fun q2 => ?_)
  refine rn_istore_n (pc := 29) 2 dk_Tr_readKnows_29 rfl rfl rfl ?_
  refine rn_aload_n (pc := 30) 0 dk_Tr_readKnows_30 rfl rfl rfl ?_
  refine gf_Tr_35 (pc := 31) rfl dk_Tr_readKnows_31 ?_
  refine rn_iconst (pc := 34) (-1 : Int32) dk_Tr_readKnows_34 cn_i_m1 ?_
  refine rn_icmp_ne (pc := 35) 49 dk_Tr_readKnows_35 (by decide) (fun c3 => ?_) (fun c3 => ?_)
  · exact rn_vret rfl dk_Tr_readKnows_49
  · refine rn_aload_n (pc := 38) 0 dk_Tr_readKnows_38 rfl rfl rfl ?_
    refine gf_Tr_12 (pc := 39) rfl dk_Tr_readKnows_39 ?_
    refine rn_iload_n (pc := 42) 1 dk_Tr_readKnows_42 rfl rfl ?_
    refine rn_iload_n (pc := 43) 2 dk_Tr_readKnows_43 rfl rfl ?_
    refine rn_iconst (pc := 44) (1 : Int32) dk_Tr_readKnows_44 cn_i_1 ?_
    refine cl_Tr_161 (pc := 45) (As := [.int q1.1, .int q2.1, .int (1 : Int32)]) (st := []) 43 rfl rfl (ct_Is_learn X 43 rfl q1.1 q2.1 (1 : Int32) q2.2) (Nat.le_trans (Nat.le_of_ble_eq_true rfl) hF0) rfl rfl (Nat.le_of_ble_eq_true rfl) dk_Tr_readKnows_45 (fun q4 => ?_)
    refine rn_pop (pc := 48) dk_Tr_readKnows_48 rfl ?_
    exact rn_vret rfl dk_Tr_readKnows_49
theorem dk_Tr_readNewMaker_0 : decode mi_Tr_readNewMaker.2.1 0 = .ok (.aload_n 0, 1) := by decide +kernel
theorem dk_Tr_readNewMaker_1 : decode mi_Tr_readNewMaker.2.1 1 = .ok (.getfield 12, 3) := by decide +kernel
theorem dk_Tr_readNewMaker_4 : decode mi_Tr_readNewMaker.2.1 4 = .ok (.invokevirtual 150, 3) := by decide +kernel
theorem dk_Tr_readNewMaker_7 : decode mi_Tr_readNewMaker.2.1 7 = .ok (.ifCond .eq 8, 3) := by decide +kernel
theorem dk_Tr_readNewMaker_10 : decode mi_Tr_readNewMaker.2.1 10 = .ok (.aload_n 0, 1) := by decide +kernel
theorem dk_Tr_readNewMaker_11 : decode mi_Tr_readNewMaker.2.1 11 = .ok (.iload_n 1, 1) := by decide +kernel
theorem dk_Tr_readNewMaker_12 : decode mi_Tr_readNewMaker.2.1 12 = .ok (.invokevirtual 70, 3) := by decide +kernel
theorem dk_Tr_readNewMaker_15 : decode mi_Tr_readNewMaker.2.1 15 = .ok (.aload_n 0, 1) := by decide +kernel
theorem dk_Tr_readNewMaker_16 : decode mi_Tr_readNewMaker.2.1 16 = .ok (.iconst 0, 1) := by decide +kernel
theorem dk_Tr_readNewMaker_17 : decode mi_Tr_readNewMaker.2.1 17 = .ok (.bipush 6, 2) := by decide +kernel
theorem dk_Tr_readNewMaker_19 : decode mi_Tr_readNewMaker.2.1 19 = .ok (.invokevirtual 147, 3) := by decide +kernel
theorem dk_Tr_readNewMaker_22 : decode mi_Tr_readNewMaker.2.1 22 = .ok (.istore_n 2, 1) := by decide +kernel
theorem dk_Tr_readNewMaker_23 : decode mi_Tr_readNewMaker.2.1 23 = .ok (.aload_n 0, 1) := by decide +kernel
theorem dk_Tr_readNewMaker_24 : decode mi_Tr_readNewMaker.2.1 24 = .ok (.iconst 0, 1) := by decide +kernel
theorem dk_Tr_readNewMaker_25 : decode mi_Tr_readNewMaker.2.1 25 = .ok (.bipush 9, 2) := by decide +kernel
theorem dk_Tr_readNewMaker_27 : decode mi_Tr_readNewMaker.2.1 27 = .ok (.invokevirtual 147, 3) := by decide +kernel
theorem dk_Tr_readNewMaker_30 : decode mi_Tr_readNewMaker.2.1 30 = .ok (.istore_n 3, 1) := by decide +kernel
theorem dk_Tr_readNewMaker_31 : decode mi_Tr_readNewMaker.2.1 31 = .ok (.aload_n 0, 1) := by decide +kernel
theorem dk_Tr_readNewMaker_32 : decode mi_Tr_readNewMaker.2.1 32 = .ok (.iconst 0, 1) := by decide +kernel
theorem dk_Tr_readNewMaker_33 : decode mi_Tr_readNewMaker.2.1 33 = .ok (.bipush 99, 2) := by decide +kernel
theorem dk_Tr_readNewMaker_35 : decode mi_Tr_readNewMaker.2.1 35 = .ok (.invokevirtual 147, 3) := by decide +kernel
theorem dk_Tr_readNewMaker_38 : decode mi_Tr_readNewMaker.2.1 38 = .ok (.istore 4, 2) := by decide +kernel
theorem dk_Tr_readNewMaker_40 : decode mi_Tr_readNewMaker.2.1 40 = .ok (.aload_n 0, 1) := by decide +kernel
theorem dk_Tr_readNewMaker_41 : decode mi_Tr_readNewMaker.2.1 41 = .ok (.getfield 35, 3) := by decide +kernel
theorem dk_Tr_readNewMaker_44 : decode mi_Tr_readNewMaker.2.1 44 = .ok (.iconst (-1), 1) := by decide +kernel
theorem dk_Tr_readNewMaker_45 : decode mi_Tr_readNewMaker.2.1 45 = .ok (.if_icmp .ne 15, 3) := by decide +kernel
theorem dk_Tr_readNewMaker_48 : decode mi_Tr_readNewMaker.2.1 48 = .ok (.aload_n 0, 1) := by decide +kernel
theorem dk_Tr_readNewMaker_49 : decode mi_Tr_readNewMaker.2.1 49 = .ok (.getfield 12, 3) := by decide +kernel
theorem dk_Tr_readNewMaker_52 : decode mi_Tr_readNewMaker.2.1 52 = .ok (.iload_n 2, 1) := by decide +kernel
theorem dk_Tr_readNewMaker_53 : decode mi_Tr_readNewMaker.2.1 53 = .ok (.iload_n 3, 1) := by decide +kernel
theorem dk_Tr_readNewMaker_54 : decode mi_Tr_readNewMaker.2.1 54 = .ok (.iload 4, 2) := by decide +kernel
theorem dk_Tr_readNewMaker_56 : decode mi_Tr_readNewMaker.2.1 56 = .ok (.invokevirtual 154, 3) := by decide +kernel
theorem dk_Tr_readNewMaker_59 : decode mi_Tr_readNewMaker.2.1 59 = .ok (.pop, 1) := by decide +kernel
theorem dk_Tr_readNewMaker_60 : decode mi_Tr_readNewMaker.2.1 60 = .ok (.return_, 1) := by decide +kernel
def Tr_readNewMaker_j15 (σ : nm_St) : Option (Unit × nm_St) :=
  ((Tr_readNumber (0 : Int32) (6 : Int32) σ).bind fun q3 =>
  ((Tr_readNumber (0 : Int32) (9 : Int32) q3.2).bind fun q4 =>
  ((Tr_readNumber (0 : Int32) (99 : Int32) q4.2).bind fun q5 =>
  (if (q5.2.1 42 6) = (-1 : Int32) then
    ((Is_addMaker 43 q3.1 q4.1 q5.1 q5.2).bind fun q7 =>
    some ((), q7.2))
  else
    some ((), q5.2)))))
set_option maxRecDepth 100000 in
set_option maxHeartbeats 4000000 in
theorem r_Tr_readNewMaker_j15 (X : nm_X) (F : nm_F) (hF0 : 3 ≤ nm_d F) (σ : nm_St) : Rn X mi_Tr_readNewMaker F (nm_Qf X F nm_wV) [(0, .ref 42)] [] 15 σ (Tr_readNewMaker_j15 σ) := by
  unfold Tr_readNewMaker_j15
  refine rn_aload_n (pc := 15) 0 dk_Tr_readNewMaker_15 rfl rfl rfl ?_
  refine rn_iconst (pc := 16) (0 : Int32) dk_Tr_readNewMaker_16 cn_i_0 ?_
  refine rn_bipush (pc := 17) (6 : Int32) dk_Tr_readNewMaker_17 cn_b_6 ?_
  refine cl_Tr_147 (pc := 19) (As := [.int (0 : Int32), .int (6 : Int32)]) (st := []) rfl (ct_Tr_readNumber X (0 : Int32) (6 : Int32) σ) (Nat.le_trans (Nat.le_of_ble_eq_true rfl) hF0) rfl rfl (Nat.le_of_ble_eq_true rfl) dk_Tr_readNewMaker_19 (fun q3 => ?_)
  refine rn_istore_n (pc := 22) 2 dk_Tr_readNewMaker_22 rfl rfl rfl ?_
  refine rn_aload_n (pc := 23) 0 dk_Tr_readNewMaker_23 rfl rfl rfl ?_
  refine rn_iconst (pc := 24) (0 : Int32) dk_Tr_readNewMaker_24 cn_i_0 ?_
  refine rn_bipush (pc := 25) (9 : Int32) dk_Tr_readNewMaker_25 cn_b_9 ?_
  refine cl_Tr_147 (pc := 27) (As := [.int (0 : Int32), .int (9 : Int32)]) (st := []) rfl (ct_Tr_readNumber X (0 : Int32) (9 : Int32) q3.2) (Nat.le_trans (Nat.le_of_ble_eq_true rfl) hF0) rfl rfl (Nat.le_of_ble_eq_true rfl) dk_Tr_readNewMaker_27 (fun q4 => ?_)
  refine rn_istore_n (pc := 30) 3 dk_Tr_readNewMaker_30 rfl rfl rfl ?_
  refine rn_aload_n (pc := 31) 0 dk_Tr_readNewMaker_31 rfl rfl rfl ?_
  refine rn_iconst (pc := 32) (0 : Int32) dk_Tr_readNewMaker_32 cn_i_0 ?_
  refine rn_bipush (pc := 33) (99 : Int32) dk_Tr_readNewMaker_33 cn_b_99 ?_
  refine cl_Tr_147 (pc := 35) (As := [.int (0 : Int32), .int (99 : Int32)]) (st := []) rfl (ct_Tr_readNumber X (0 : Int32) (99 : Int32) q4.2) (Nat.le_trans (Nat.le_of_ble_eq_true rfl) hF0) rfl rfl (Nat.le_of_ble_eq_true rfl) dk_Tr_readNewMaker_35 (fun q5 => ?_)
  refine rn_istore (pc := 38) dk_Tr_readNewMaker_38 rfl rfl ?_
  refine rn_aload_n (pc := 40) 0 dk_Tr_readNewMaker_40 rfl rfl rfl ?_
  refine gf_Tr_35 (pc := 41) rfl dk_Tr_readNewMaker_41 ?_
  refine rn_iconst (pc := 44) (-1 : Int32) dk_Tr_readNewMaker_44 cn_i_m1 ?_
  refine rn_icmp_ne (pc := 45) 60 dk_Tr_readNewMaker_45 (by decide) (fun c6 => ?_) (fun c6 => ?_)
  · exact rn_vret rfl dk_Tr_readNewMaker_60
  · refine rn_aload_n (pc := 48) 0 dk_Tr_readNewMaker_48 rfl rfl rfl ?_
    refine gf_Tr_12 (pc := 49) rfl dk_Tr_readNewMaker_49 ?_
    refine rn_iload_n (pc := 52) 2 dk_Tr_readNewMaker_52 rfl rfl ?_
    refine rn_iload_n (pc := 53) 3 dk_Tr_readNewMaker_53 rfl rfl ?_
    refine rn_iload (pc := 54) dk_Tr_readNewMaker_54 rfl ?_
    refine cl_Tr_154 (pc := 56) (As := [.int q3.1, .int q4.1, .int q5.1]) (st := []) 43 rfl rfl (ct_Is_addMaker X 43 rfl q3.1 q4.1 q5.1 q5.2) (Nat.le_trans (Nat.le_of_ble_eq_true rfl) hF0) rfl rfl (Nat.le_of_ble_eq_true rfl) dk_Tr_readNewMaker_56 (fun q7 => ?_)
    refine rn_pop (pc := 59) dk_Tr_readNewMaker_59 rfl ?_
    exact rn_vret rfl dk_Tr_readNewMaker_60
def Tr_readNewMaker (p1 : Int32) (σ : nm_St) : Option (Unit × nm_St) :=
  ((Is_isFull 43 σ).bind fun q1 =>
  (if q1.1 = 0 then
    Tr_readNewMaker_j15 q1.2
  else
    ((Tr_fail p1 q1.2).bind fun q8 =>
    Tr_readNewMaker_j15 q8.2)))
set_option maxRecDepth 100000 in
set_option maxHeartbeats 4000000 in
theorem ct_Tr_readNewMaker (X : nm_X) (p1 : Int32) (σ : nm_St) : Ct X mi_Tr_readNewMaker 3 nm_wV [.ref 42, .int p1] σ (Tr_readNewMaker p1 σ) := by
  refine Ct.of (by decide +kernel) rfl (fun F hF0 => ?_)
  unfold Tr_readNewMaker
  refine rn_aload_n (pc := 0) 0 dk_Tr_readNewMaker_0 rfl rfl rfl ?_
  refine gf_Tr_12 (pc := 1) rfl dk_Tr_readNewMaker_1 ?_
  refine cl_Tr_150 (pc := 4) (As := []) (st := []) 43 rfl rfl (ct_Is_isFull X 43 rfl σ) (Nat.le_trans (Nat.le_of_ble_eq_true rfl) hF0) rfl rfl (Nat.le_of_ble_eq_true rfl) dk_Tr_readNewMaker_4 (fun q1 => ?_)
  refine rn_if_eq (pc := 7) 15 dk_Tr_readNewMaker_7 (by decide) (fun c2 => ?_) (fun c2 => ?_)
  · exact rn_sub (by rfl) (r_Tr_readNewMaker_j15 X F hF0 q1.2)
  · refine rn_aload_n (pc := 10) 0 dk_Tr_readNewMaker_10 rfl rfl rfl ?_
    refine rn_iload_n (pc := 11) 1 dk_Tr_readNewMaker_11 rfl rfl ?_
    refine cl_Tr_70 (pc := 12) (As := [.int p1]) (st := []) rfl (ct_Tr_fail X p1 q1.2) (Nat.le_trans (Nat.le_of_ble_eq_true rfl) hF0) rfl rfl (Nat.le_of_ble_eq_true rfl) dk_Tr_readNewMaker_12 (fun q8 => ?_)
    exact rn_sub (by rfl) (r_Tr_readNewMaker_j15 X F hF0 q8.2)
theorem dk_Tr_readParts_0 : decode mi_Tr_readParts.2.1 0 = .ok (.aload_n 0, 1) := by decide +kernel
theorem dk_Tr_readParts_1 : decode mi_Tr_readParts.2.1 1 = .ok (.aload_n 0, 1) := by decide +kernel
theorem dk_Tr_readParts_2 : decode mi_Tr_readParts.2.1 2 = .ok (.getfield 12, 3) := by decide +kernel
theorem dk_Tr_readParts_5 : decode mi_Tr_readParts.2.1 5 = .ok (.getfield 145, 3) := by decide +kernel
theorem dk_Tr_readParts_8 : decode mi_Tr_readParts.2.1 8 = .ok (.bipush 8, 2) := by decide +kernel
theorem dk_Tr_readParts_10 : decode mi_Tr_readParts.2.1 10 = .ok (.invokevirtual 147, 3) := by decide +kernel
theorem dk_Tr_readParts_13 : decode mi_Tr_readParts.2.1 13 = .ok (.istore_n 1, 1) := by decide +kernel
theorem dk_Tr_readParts_14 : decode mi_Tr_readParts.2.1 14 = .ok (.aload_n 0, 1) := by decide +kernel
theorem dk_Tr_readParts_15 : decode mi_Tr_readParts.2.1 15 = .ok (.getfield 35, 3) := by decide +kernel
theorem dk_Tr_readParts_18 : decode mi_Tr_readParts.2.1 18 = .ok (.iconst (-1), 1) := by decide +kernel
theorem dk_Tr_readParts_19 : decode mi_Tr_readParts.2.1 19 = .ok (.if_icmp .ne 11, 3) := by decide +kernel
theorem dk_Tr_readParts_22 : decode mi_Tr_readParts.2.1 22 = .ok (.aload_n 0, 1) := by decide +kernel
theorem dk_Tr_readParts_23 : decode mi_Tr_readParts.2.1 23 = .ok (.getfield 12, 3) := by decide +kernel
theorem dk_Tr_readParts_26 : decode mi_Tr_readParts.2.1 26 = .ok (.iload_n 1, 1) := by decide +kernel
theorem dk_Tr_readParts_27 : decode mi_Tr_readParts.2.1 27 = .ok (.putfield 145, 3) := by decide +kernel
theorem dk_Tr_readParts_30 : decode mi_Tr_readParts.2.1 30 = .ok (.return_, 1) := by decide +kernel
def Tr_readParts (σ : nm_St) : Option (Unit × nm_St) :=
  ((Tr_readNumber (σ.1 43 7) (8 : Int32) σ).bind fun q1 =>
  (if (q1.2.1 42 6) = (-1 : Int32) then
    (nm_let (nm_pI q1.2 43 7 q1.1) fun s3 =>
    some ((), s3))
  else
    some ((), q1.2)))
set_option maxRecDepth 100000 in
set_option maxHeartbeats 4000000 in
theorem ct_Tr_readParts (X : nm_X) (σ : nm_St) : Ct X mi_Tr_readParts 3 nm_wV [.ref 42] σ (Tr_readParts σ) := by
  refine Ct.of (by decide +kernel) rfl (fun F hF0 => ?_)
  unfold Tr_readParts
  refine rn_aload_n (pc := 0) 0 dk_Tr_readParts_0 rfl rfl rfl ?_
  refine rn_aload_n (pc := 1) 0 dk_Tr_readParts_1 rfl rfl rfl ?_
  refine gf_Tr_12 (pc := 2) rfl dk_Tr_readParts_2 ?_
  refine gf_Tr_145 (pc := 5) 43 rfl rfl dk_Tr_readParts_5 ?_
  refine rn_bipush (pc := 8) (8 : Int32) dk_Tr_readParts_8 cn_b_8 ?_
  refine cl_Tr_147 (pc := 10) (As := [.int (σ.1 43 7), .int (8 : Int32)]) (st := []) rfl (ct_Tr_readNumber X (σ.1 43 7) (8 : Int32) σ) (Nat.le_trans (Nat.le_of_ble_eq_true rfl) hF0) rfl rfl (Nat.le_of_ble_eq_true rfl) dk_Tr_readParts_10 (fun q1 => ?_)
  refine rn_istore_n (pc := 13) 1 dk_Tr_readParts_13 rfl rfl rfl ?_
  refine rn_aload_n (pc := 14) 0 dk_Tr_readParts_14 rfl rfl rfl ?_
  refine gf_Tr_35 (pc := 15) rfl dk_Tr_readParts_15 ?_
  refine rn_iconst (pc := 18) (-1 : Int32) dk_Tr_readParts_18 cn_i_m1 ?_
  refine rn_icmp_ne (pc := 19) 30 dk_Tr_readParts_19 (by decide) (fun c2 => ?_) (fun c2 => ?_)
  · exact rn_vret rfl dk_Tr_readParts_30
  · refine rn_aload_n (pc := 22) 0 dk_Tr_readParts_22 rfl rfl rfl ?_
    refine gf_Tr_12 (pc := 23) rfl dk_Tr_readParts_23 ?_
    refine rn_iload_n (pc := 26) 1 dk_Tr_readParts_26 rfl rfl ?_
    refine pf_Tr_145 (pc := 27) 43 rfl rfl dk_Tr_readParts_27 ?_
    refine rn_lets (fun s3 => ?_)
    exact rn_vret rfl dk_Tr_readParts_30
theorem dk_Tr_readPurse_0 : decode mi_Tr_readPurse.2.1 0 = .ok (.aload_n 0, 1) := by decide +kernel
theorem dk_Tr_readPurse_1 : decode mi_Tr_readPurse.2.1 1 = .ok (.iconst 0, 1) := by decide +kernel
theorem dk_Tr_readPurse_2 : decode mi_Tr_readPurse.2.1 2 = .ok (.sipush 9999, 3) := by decide +kernel
theorem dk_Tr_readPurse_5 : decode mi_Tr_readPurse.2.1 5 = .ok (.invokevirtual 147, 3) := by decide +kernel
theorem dk_Tr_readPurse_8 : decode mi_Tr_readPurse.2.1 8 = .ok (.istore_n 1, 1) := by decide +kernel
theorem dk_Tr_readPurse_9 : decode mi_Tr_readPurse.2.1 9 = .ok (.aload_n 0, 1) := by decide +kernel
theorem dk_Tr_readPurse_10 : decode mi_Tr_readPurse.2.1 10 = .ok (.getfield 35, 3) := by decide +kernel
theorem dk_Tr_readPurse_13 : decode mi_Tr_readPurse.2.1 13 = .ok (.iconst (-1), 1) := by decide +kernel
theorem dk_Tr_readPurse_14 : decode mi_Tr_readPurse.2.1 14 = .ok (.if_icmp .ne 11, 3) := by decide +kernel
theorem dk_Tr_readPurse_17 : decode mi_Tr_readPurse.2.1 17 = .ok (.aload_n 0, 1) := by decide +kernel
theorem dk_Tr_readPurse_18 : decode mi_Tr_readPurse.2.1 18 = .ok (.getfield 12, 3) := by decide +kernel
theorem dk_Tr_readPurse_21 : decode mi_Tr_readPurse.2.1 21 = .ok (.iload_n 1, 1) := by decide +kernel
theorem dk_Tr_readPurse_22 : decode mi_Tr_readPurse.2.1 22 = .ok (.putfield 170, 3) := by decide +kernel
theorem dk_Tr_readPurse_25 : decode mi_Tr_readPurse.2.1 25 = .ok (.return_, 1) := by decide +kernel
def Tr_readPurse (σ : nm_St) : Option (Unit × nm_St) :=
  ((Tr_readNumber (0 : Int32) (9999 : Int32) σ).bind fun q1 =>
  (if (q1.2.1 42 6) = (-1 : Int32) then
    (nm_let (nm_pI q1.2 43 9 q1.1) fun s3 =>
    some ((), s3))
  else
    some ((), q1.2)))
set_option maxRecDepth 100000 in
set_option maxHeartbeats 4000000 in
theorem ct_Tr_readPurse (X : nm_X) (σ : nm_St) : Ct X mi_Tr_readPurse 3 nm_wV [.ref 42] σ (Tr_readPurse σ) := by
  refine Ct.of (by decide +kernel) rfl (fun F hF0 => ?_)
  unfold Tr_readPurse
  refine rn_aload_n (pc := 0) 0 dk_Tr_readPurse_0 rfl rfl rfl ?_
  refine rn_iconst (pc := 1) (0 : Int32) dk_Tr_readPurse_1 cn_i_0 ?_
  refine rn_sipush (pc := 2) (9999 : Int32) dk_Tr_readPurse_2 cn_s_9999 ?_
  refine cl_Tr_147 (pc := 5) (As := [.int (0 : Int32), .int (9999 : Int32)]) (st := []) rfl (ct_Tr_readNumber X (0 : Int32) (9999 : Int32) σ) (Nat.le_trans (Nat.le_of_ble_eq_true rfl) hF0) rfl rfl (Nat.le_of_ble_eq_true rfl) dk_Tr_readPurse_5 (fun q1 => ?_)
  refine rn_istore_n (pc := 8) 1 dk_Tr_readPurse_8 rfl rfl rfl ?_
  refine rn_aload_n (pc := 9) 0 dk_Tr_readPurse_9 rfl rfl rfl ?_
  refine gf_Tr_35 (pc := 10) rfl dk_Tr_readPurse_10 ?_
  refine rn_iconst (pc := 13) (-1 : Int32) dk_Tr_readPurse_13 cn_i_m1 ?_
  refine rn_icmp_ne (pc := 14) 25 dk_Tr_readPurse_14 (by decide) (fun c2 => ?_) (fun c2 => ?_)
  · exact rn_vret rfl dk_Tr_readPurse_25
  · refine rn_aload_n (pc := 17) 0 dk_Tr_readPurse_17 rfl rfl rfl ?_
    refine gf_Tr_12 (pc := 18) rfl dk_Tr_readPurse_18 ?_
    refine rn_iload_n (pc := 21) 1 dk_Tr_readPurse_21 rfl rfl ?_
    refine pf_Tr_170 (pc := 22) 43 rfl rfl dk_Tr_readPurse_22 ?_
    refine rn_lets (fun s3 => ?_)
    exact rn_vret rfl dk_Tr_readPurse_25
theorem dk_Js_isLatin1_0 : decode mi_Js_isLatin1.2.1 0 = .ok (.getstatic 38, 3) := by decide +kernel
theorem dk_Js_isLatin1_3 : decode mi_Js_isLatin1.2.1 3 = .ok (.ifCond .eq 14, 3) := by decide +kernel
theorem dk_Js_isLatin1_6 : decode mi_Js_isLatin1.2.1 6 = .ok (.aload_n 0, 1) := by decide +kernel
theorem dk_Js_isLatin1_7 : decode mi_Js_isLatin1.2.1 7 = .ok (.getfield 15, 3) := by decide +kernel
theorem dk_Js_isLatin1_10 : decode mi_Js_isLatin1.2.1 10 = .ok (.ifCond .ne 7, 3) := by decide +kernel
theorem dk_Js_isLatin1_13 : decode mi_Js_isLatin1.2.1 13 = .ok (.iconst 1, 1) := by decide +kernel
theorem dk_Js_isLatin1_14 : decode mi_Js_isLatin1.2.1 14 = .ok (.goto 4, 3) := by decide +kernel
theorem dk_Js_isLatin1_17 : decode mi_Js_isLatin1.2.1 17 = .ok (.iconst 0, 1) := by decide +kernel
theorem dk_Js_isLatin1_18 : decode mi_Js_isLatin1.2.1 18 = .ok (.ireturn, 1) := by decide +kernel
def Js_isLatin1 (o : Nat) (σ : nm_St) : Option (Int32 × nm_St) :=
  (if (1 : Int32) = 0 then
    some ((0 : Int32), σ)
  else
    (if (0 : Int32) = 0 then
      some ((1 : Int32), σ)
    else
      some ((0 : Int32), σ)))
set_option maxRecDepth 100000 in
set_option maxHeartbeats 4000000 in
theorem ct_Js_isLatin1 (X : nm_X) (o : Nat) (ho : nm_isS o = true) (σ : nm_St) : Ct X mi_Js_isLatin1 0 nm_wI [.ref o] σ (Js_isLatin1 o σ) := by
  refine Ct.of (by decide +kernel) rfl (fun F hF0 => ?_)
  unfold Js_isLatin1
  refine rn_getCS (pc := 0) wd_570 dk_Js_isLatin1_0 ?_
  refine rn_if_eq (pc := 3) 17 dk_Js_isLatin1_3 (by decide) (fun c1 => ?_) (fun c1 => ?_)
  · refine rn_iconst (pc := 17) (0 : Int32) dk_Js_isLatin1_17 cn_i_0 ?_
    exact rn_zret (ty := .boolean) rfl rfl dk_Js_isLatin1_18
  · refine rn_aload_n (pc := 6) 0 dk_Js_isLatin1_6 rfl rfl (nm_rok_isS ho) ?_
    refine rn_strC (pc := 7) o 15 ho wd_1540 dk_Js_isLatin1_7 ?_
    refine rn_if_ne (pc := 10) 17 dk_Js_isLatin1_10 (by decide) (fun c2 => ?_) (fun c2 => ?_)
    · refine rn_iconst (pc := 17) (0 : Int32) dk_Js_isLatin1_17 cn_i_0 ?_
      exact rn_zret (ty := .boolean) rfl rfl dk_Js_isLatin1_18
    · refine rn_iconst (pc := 13) (1 : Int32) dk_Js_isLatin1_13 cn_i_1 ?_
      refine rn_goto (pc := 14) 18 dk_Js_isLatin1_14 (by decide) ?_
      exact rn_zret (ty := .boolean) rfl rfl dk_Js_isLatin1_18
theorem dk_Jp_checkIndex_0 : decode mi_Jp_checkIndex.2.1 0 = .ok (.iload_n 0, 1) := by decide +kernel
theorem dk_Jp_checkIndex_1 : decode mi_Jp_checkIndex.2.1 1 = .ok (.ifCond .lt 8, 3) := by decide +kernel
theorem dk_Jp_checkIndex_4 : decode mi_Jp_checkIndex.2.1 4 = .ok (.iload_n 0, 1) := by decide +kernel
theorem dk_Jp_checkIndex_5 : decode mi_Jp_checkIndex.2.1 5 = .ok (.iload_n 1, 1) := by decide +kernel
theorem dk_Jp_checkIndex_6 : decode mi_Jp_checkIndex.2.1 6 = .ok (.if_icmp .lt 10, 3) := by decide +kernel
theorem dk_Jp_checkIndex_9 : decode mi_Jp_checkIndex.2.1 9 = .ok (.aload_n 2, 1) := by decide +kernel
theorem dk_Jp_checkIndex_10 : decode mi_Jp_checkIndex.2.1 10 = .ok (.iload_n 0, 1) := by decide +kernel
theorem dk_Jp_checkIndex_11 : decode mi_Jp_checkIndex.2.1 11 = .ok (.iload_n 1, 1) := by decide +kernel
theorem dk_Jp_checkIndex_12 : decode mi_Jp_checkIndex.2.1 12 = .ok (.invokestatic 95, 3) := by decide +kernel
theorem dk_Jp_checkIndex_16 : decode mi_Jp_checkIndex.2.1 16 = .ok (.iload_n 0, 1) := by decide +kernel
theorem dk_Jp_checkIndex_17 : decode mi_Jp_checkIndex.2.1 17 = .ok (.ireturn, 1) := by decide +kernel
def Jp_checkIndex (p0 : Int32) (p1 : Int32) (σ : nm_St) : Option (Int32 × nm_St) :=
  (if p0 < 0 then
    none
  else
    (if p0 < p1 then
      some (p0, σ)
    else
      none))
set_option maxRecDepth 100000 in
set_option maxHeartbeats 4000000 in
theorem ct_Jp_checkIndex (X : nm_X) (p0 : Int32) (p1 : Int32) (σ : nm_St) : Ct X mi_Jp_checkIndex 0 nm_wI [.int p0, .int p1, .ref 5000] σ (Jp_checkIndex p0 p1 σ) := by
  refine Ct.of (by decide +kernel) rfl (fun F hF0 => ?_)
  unfold Jp_checkIndex
  refine rn_iload_n (pc := 0) 0 dk_Jp_checkIndex_0 rfl rfl ?_
  refine rn_if_lt (pc := 1) 9 dk_Jp_checkIndex_1 (by decide) (fun c1 => ?_) (fun c1 => ?_)
  · exact rn_none
  · refine rn_iload_n (pc := 4) 0 dk_Jp_checkIndex_4 rfl rfl ?_
    refine rn_iload_n (pc := 5) 1 dk_Jp_checkIndex_5 rfl rfl ?_
    refine rn_icmp_lt (pc := 6) 16 dk_Jp_checkIndex_6 (by decide) (fun c2 => ?_) (fun c2 => ?_)
    · refine rn_iload_n (pc := 16) 0 dk_Jp_checkIndex_16 rfl rfl ?_
      exact rn_iret rfl dk_Jp_checkIndex_17
    · exact rn_none
theorem dk_Js_checkIndex_0 : decode mi_Js_checkIndex.2.1 0 = .ok (.iload_n 0, 1) := by decide +kernel
theorem dk_Js_checkIndex_1 : decode mi_Js_checkIndex.2.1 1 = .ok (.iload_n 1, 1) := by decide +kernel
theorem dk_Js_checkIndex_2 : decode mi_Js_checkIndex.2.1 2 = .ok (.getstatic 1053, 3) := by decide +kernel
theorem dk_Js_checkIndex_5 : decode mi_Js_checkIndex.2.1 5 = .ok (.invokestatic 1059, 3) := by decide +kernel
theorem dk_Js_checkIndex_8 : decode mi_Js_checkIndex.2.1 8 = .ok (.pop, 1) := by decide +kernel
theorem dk_Js_checkIndex_9 : decode mi_Js_checkIndex.2.1 9 = .ok (.return_, 1) := by decide +kernel
def Js_checkIndex (p0 : Int32) (p1 : Int32) (σ : nm_St) : Option (Unit × nm_St) :=
  ((Jp_checkIndex p0 p1 σ).bind fun q1 =>
  some ((), q1.2))
set_option maxRecDepth 100000 in
set_option maxHeartbeats 4000000 in
theorem ct_Js_checkIndex (X : nm_X) (p0 : Int32) (p1 : Int32) (σ : nm_St) : Ct X mi_Js_checkIndex 1 nm_wV [.int p0, .int p1] σ (Js_checkIndex p0 p1 σ) := by
  refine Ct.of (by decide +kernel) rfl (fun F hF0 => ?_)
  unfold Js_checkIndex
  refine rn_iload_n (pc := 0) 0 dk_Js_checkIndex_0 rfl rfl ?_
  refine rn_iload_n (pc := 1) 1 dk_Js_checkIndex_1 rfl rfl ?_
  refine rn_getSI (pc := 2) wd_586 dk_Js_checkIndex_2 ?_
  refine cl_Js_1059 (pc := 5) (As := [.int p0, .int p1, .ref 5000]) (st := []) rfl (ct_Jp_checkIndex X p0 p1 σ) (Nat.le_trans (Nat.le_of_ble_eq_true rfl) hF0) rfl rfl (Nat.le_of_ble_eq_true rfl) dk_Js_checkIndex_5 (fun q1 => ?_)
  refine rn_pop (pc := 8) dk_Js_checkIndex_8 rfl ?_
  exact rn_vret rfl dk_Js_checkIndex_9
theorem dk_Jl_charAt_0 : decode mi_Jl_charAt.2.1 0 = .ok (.iload_n 1, 1) := by decide +kernel
theorem dk_Jl_charAt_1 : decode mi_Jl_charAt.2.1 1 = .ok (.aload_n 0, 1) := by decide +kernel
theorem dk_Jl_charAt_2 : decode mi_Jl_charAt.2.1 2 = .ok (.arraylength, 1) := by decide +kernel
theorem dk_Jl_charAt_3 : decode mi_Jl_charAt.2.1 3 = .ok (.invokestatic 9, 3) := by decide +kernel
theorem dk_Jl_charAt_6 : decode mi_Jl_charAt.2.1 6 = .ok (.aload_n 0, 1) := by decide +kernel
theorem dk_Jl_charAt_7 : decode mi_Jl_charAt.2.1 7 = .ok (.iload_n 1, 1) := by decide +kernel
theorem dk_Jl_charAt_8 : decode mi_Jl_charAt.2.1 8 = .ok (.baload, 1) := by decide +kernel
theorem dk_Jl_charAt_9 : decode mi_Jl_charAt.2.1 9 = .ok (.sipush 255, 3) := by decide +kernel
theorem dk_Jl_charAt_12 : decode mi_Jl_charAt.2.1 12 = .ok (.iand, 1) := by decide +kernel
theorem dk_Jl_charAt_13 : decode mi_Jl_charAt.2.1 13 = .ok (.i2c, 1) := by decide +kernel
theorem dk_Jl_charAt_14 : decode mi_Jl_charAt.2.1 14 = .ok (.ireturn, 1) := by decide +kernel
def Jl_charAt (o0 : Nat) (p1 : Int32) (σ : nm_St) : Option (Int32 × nm_St) :=
  ((Js_checkIndex p1 (Int32.ofNat (nm_slen.getD (o0 - 2000) 0)) σ).bind fun q1 =>
  (nm_g (nm_in p1 (nm_slen.getD (o0 - 2000) 0)) (
  (nm_g (nm_chz (UInt32.toInt32 (Int32.toUInt32 (((nm_sbyt.getD (o0 - 2000) []).getD p1.toNatClampNeg 0) &&& (255 : Int32)) % 65536))) (
  some ((UInt32.toInt32 (Int32.toUInt32 (((nm_sbyt.getD (o0 - 2000) []).getD p1.toNatClampNeg 0) &&& (255 : Int32)) % 65536)), q1.2))))))
set_option maxRecDepth 100000 in
set_option maxHeartbeats 4000000 in
theorem ct_Jl_charAt (X : nm_X) (o0 : Nat) (ho0 : nm_isS o0 = true) (p1 : Int32) (σ : nm_St) : Ct X mi_Jl_charAt 2 nm_wI [.ref (1000 + o0), .int p1] σ (Jl_charAt o0 p1 σ) := by
  refine Ct.of (by decide +kernel) rfl (fun F hF0 => ?_)
  unfold Jl_charAt
  refine rn_iload_n (pc := 0) 1 dk_Jl_charAt_0 rfl rfl ?_
  refine rn_aload_n (pc := 1) 0 dk_Jl_charAt_1 rfl rfl (nm_rok_by ho0) ?_
  refine rn_strL (pc := 2) o0 ho0 dk_Jl_charAt_2 ?_
  refine cl_Jl_9 (pc := 3) (As := [.int p1, .int (Int32.ofNat (nm_slen.getD (o0 - 2000) 0))]) (st := []) rfl (ct_Js_checkIndex X p1 (Int32.ofNat (nm_slen.getD (o0 - 2000) 0)) σ) (Nat.le_trans (Nat.le_of_ble_eq_true rfl) hF0) rfl rfl (Nat.le_of_ble_eq_true rfl) dk_Jl_charAt_3 (fun q1 => ?_)
  refine rn_aload_n (pc := 6) 0 dk_Jl_charAt_6 rfl rfl (nm_rok_by ho0) ?_
  refine rn_iload_n (pc := 7) 1 dk_Jl_charAt_7 rfl rfl ?_
  refine rn_strB (pc := 8) o0 ho0 dk_Jl_charAt_8 (fun g2 => ?_)
  refine rn_sipush (pc := 9) (255 : Int32) dk_Jl_charAt_9 cn_s_255 ?_
  refine rn_iand (pc := 12) dk_Jl_charAt_12 ?_
  refine rn_i2c (pc := 13) dk_Jl_charAt_13 ?_
  refine rn_guard (fun g3 => ?_)
  exact rn_zret (ty := .char) rfl (nm_chz_n g3) dk_Jl_charAt_14
theorem dk_Js_charAt_0 : decode mi_Js_charAt.2.1 0 = .ok (.aload_n 0, 1) := by decide +kernel
theorem dk_Js_charAt_1 : decode mi_Js_charAt.2.1 1 = .ok (.invokevirtual 492, 3) := by decide +kernel
theorem dk_Js_charAt_4 : decode mi_Js_charAt.2.1 4 = .ok (.ifCond .eq 12, 3) := by decide +kernel
theorem dk_Js_charAt_7 : decode mi_Js_charAt.2.1 7 = .ok (.aload_n 0, 1) := by decide +kernel
theorem dk_Js_charAt_8 : decode mi_Js_charAt.2.1 8 = .ok (.getfield 9, 3) := by decide +kernel
theorem dk_Js_charAt_11 : decode mi_Js_charAt.2.1 11 = .ok (.iload_n 1, 1) := by decide +kernel
theorem dk_Js_charAt_12 : decode mi_Js_charAt.2.1 12 = .ok (.invokestatic 495, 3) := by decide +kernel
theorem dk_Js_charAt_15 : decode mi_Js_charAt.2.1 15 = .ok (.ireturn, 1) := by decide +kernel
theorem dk_Js_charAt_16 : decode mi_Js_charAt.2.1 16 = .ok (.aload_n 0, 1) := by decide +kernel
theorem dk_Js_charAt_17 : decode mi_Js_charAt.2.1 17 = .ok (.getfield 9, 3) := by decide +kernel
theorem dk_Js_charAt_20 : decode mi_Js_charAt.2.1 20 = .ok (.iload_n 1, 1) := by decide +kernel
theorem dk_Js_charAt_21 : decode mi_Js_charAt.2.1 21 = .ok (.invokestatic 498, 3) := by decide +kernel
def Js_charAt (o : Nat) (p1 : Int32) (σ : nm_St) : Option (Int32 × nm_St) :=
  ((Js_isLatin1 o σ).bind fun q1 =>
  (if q1.1 = 0 then
    none
  else
    ((Jl_charAt o p1 q1.2).bind fun q3 =>
    (nm_g (nm_chz q3.1) (
    some (q3.1, q3.2))))))
set_option maxRecDepth 100000 in
set_option maxHeartbeats 4000000 in
theorem ct_Js_charAt (X : nm_X) (o : Nat) (ho : nm_isS o = true) (p1 : Int32) (σ : nm_St) : Ct X mi_Js_charAt 3 nm_wI [.ref o, .int p1] σ (Js_charAt o p1 σ) := by
  refine Ct.of (by decide +kernel) rfl (fun F hF0 => ?_)
  unfold Js_charAt
  refine rn_aload_n (pc := 0) 0 dk_Js_charAt_0 rfl rfl (nm_rok_isS ho) ?_
  refine cl_Js_492 (pc := 1) (As := []) (st := []) o ho rfl (ct_Js_isLatin1 X o ho σ) (Nat.le_trans (Nat.le_of_ble_eq_true rfl) hF0) rfl rfl (Nat.le_of_ble_eq_true rfl) dk_Js_charAt_1 (fun q1 => ?_)
  refine rn_if_eq (pc := 4) 16 dk_Js_charAt_4 (by decide) (fun c2 => ?_) (fun c2 => ?_)
  · refine rn_aload_n (pc := 16) 0 dk_Js_charAt_16 rfl rfl (nm_rok_isS ho) ?_
    refine rn_strV (pc := 17) o 9 ho wd_1539 dk_Js_charAt_17 ?_
    refine rn_iload_n (pc := 20) 1 dk_Js_charAt_20 rfl rfl ?_
    exact rn_none
  · refine rn_aload_n (pc := 7) 0 dk_Js_charAt_7 rfl rfl (nm_rok_isS ho) ?_
    refine rn_strV (pc := 8) o 9 ho wd_1539 dk_Js_charAt_8 ?_
    refine rn_iload_n (pc := 11) 1 dk_Js_charAt_11 rfl rfl ?_
    refine cl_Js_495 (pc := 12) (As := [.ref (1000 + o), .int p1]) (st := []) rfl (ct_Jl_charAt X o ho p1 q1.2) (Nat.le_trans (Nat.le_of_ble_eq_true rfl) hF0) rfl rfl (Nat.le_of_ble_eq_true rfl) dk_Js_charAt_12 (fun q3 => ?_)
    refine rn_guard (fun g4 => ?_)
    exact rn_zret (ty := .char) rfl (nm_chz_n g4) dk_Js_charAt_15
theorem dk_Js_coder_0 : decode mi_Js_coder.2.1 0 = .ok (.getstatic 38, 3) := by decide +kernel
theorem dk_Js_coder_3 : decode mi_Js_coder.2.1 3 = .ok (.ifCond .eq 10, 3) := by decide +kernel
theorem dk_Js_coder_6 : decode mi_Js_coder.2.1 6 = .ok (.aload_n 0, 1) := by decide +kernel
theorem dk_Js_coder_7 : decode mi_Js_coder.2.1 7 = .ok (.getfield 15, 3) := by decide +kernel
theorem dk_Js_coder_10 : decode mi_Js_coder.2.1 10 = .ok (.goto 4, 3) := by decide +kernel
theorem dk_Js_coder_13 : decode mi_Js_coder.2.1 13 = .ok (.iconst 1, 1) := by decide +kernel
theorem dk_Js_coder_14 : decode mi_Js_coder.2.1 14 = .ok (.ireturn, 1) := by decide +kernel
def Js_coder (o : Nat) (σ : nm_St) : Option (Int32 × nm_St) :=
  (if (1 : Int32) = 0 then
    some ((1 : Int32), σ)
  else
    some ((0 : Int32), σ))
set_option maxRecDepth 100000 in
set_option maxHeartbeats 4000000 in
theorem ct_Js_coder (X : nm_X) (o : Nat) (ho : nm_isS o = true) (σ : nm_St) : Ct X mi_Js_coder 0 nm_wI [.ref o] σ (Js_coder o σ) := by
  refine Ct.of (by decide +kernel) rfl (fun F hF0 => ?_)
  unfold Js_coder
  refine rn_getCS (pc := 0) wd_570 dk_Js_coder_0 ?_
  refine rn_if_eq (pc := 3) 13 dk_Js_coder_3 (by decide) (fun c1 => ?_) (fun c1 => ?_)
  · refine rn_iconst (pc := 13) (1 : Int32) dk_Js_coder_13 cn_i_1 ?_
    exact rn_zret (ty := .byte) rfl rfl dk_Js_coder_14
  · refine rn_aload_n (pc := 6) 0 dk_Js_coder_6 rfl rfl (nm_rok_isS ho) ?_
    refine rn_strC (pc := 7) o 15 ho wd_1540 dk_Js_coder_7 ?_
    refine rn_goto (pc := 10) 14 dk_Js_coder_10 (by decide) ?_
    exact rn_zret (ty := .byte) rfl rfl dk_Js_coder_14
theorem dk_Js_length_0 : decode mi_Js_length.2.1 0 = .ok (.aload_n 0, 1) := by decide +kernel
theorem dk_Js_length_1 : decode mi_Js_length.2.1 1 = .ok (.getfield 9, 3) := by decide +kernel
theorem dk_Js_length_4 : decode mi_Js_length.2.1 4 = .ok (.arraylength, 1) := by decide +kernel
theorem dk_Js_length_5 : decode mi_Js_length.2.1 5 = .ok (.aload_n 0, 1) := by decide +kernel
theorem dk_Js_length_6 : decode mi_Js_length.2.1 6 = .ok (.invokevirtual 335, 3) := by decide +kernel
theorem dk_Js_length_9 : decode mi_Js_length.2.1 9 = .ok (.ishr, 1) := by decide +kernel
theorem dk_Js_length_10 : decode mi_Js_length.2.1 10 = .ok (.ireturn, 1) := by decide +kernel
def Js_length (o : Nat) (σ : nm_St) : Option (Int32 × nm_St) :=
  ((Js_coder o σ).bind fun q1 =>
  some (((Int32.ofNat (nm_slen.getD (o - 2000) 0)) >>> (q1.1 &&& 31)), q1.2))
set_option maxRecDepth 100000 in
set_option maxHeartbeats 4000000 in
theorem ct_Js_length (X : nm_X) (o : Nat) (ho : nm_isS o = true) (σ : nm_St) : Ct X mi_Js_length 1 nm_wI [.ref o] σ (Js_length o σ) := by
  refine Ct.of (by decide +kernel) rfl (fun F hF0 => ?_)
  unfold Js_length
  refine rn_aload_n (pc := 0) 0 dk_Js_length_0 rfl rfl (nm_rok_isS ho) ?_
  refine rn_strV (pc := 1) o 9 ho wd_1539 dk_Js_length_1 ?_
  refine rn_strL (pc := 4) o ho dk_Js_length_4 ?_
  refine rn_aload_n (pc := 5) 0 dk_Js_length_5 rfl rfl (nm_rok_isS ho) ?_
  refine cl_Js_335 (pc := 6) (As := []) (st := [.int (Int32.ofNat (nm_slen.getD (o - 2000) 0))]) o ho rfl (ct_Js_coder X o ho σ) (Nat.le_trans (Nat.le_of_ble_eq_true rfl) hF0) rfl rfl (Nat.le_of_ble_eq_true rfl) dk_Js_length_6 (fun q1 => ?_)
  refine rn_ishr (pc := 9) dk_Js_length_9 ?_
  exact rn_iret rfl dk_Js_length_10
theorem dk_Tr_lettersOf_0 : decode mi_Tr_lettersOf.2.1 0 = .ok (.iconst 0, 1) := by decide +kernel
theorem dk_Tr_lettersOf_1 : decode mi_Tr_lettersOf.2.1 1 = .ok (.istore_n 2, 1) := by decide +kernel
theorem dk_Tr_lettersOf_2 : decode mi_Tr_lettersOf.2.1 2 = .ok (.iconst 0, 1) := by decide +kernel
theorem dk_Tr_lettersOf_3 : decode mi_Tr_lettersOf.2.1 3 = .ok (.istore_n 3, 1) := by decide +kernel
theorem dk_Tr_lettersOf_4 : decode mi_Tr_lettersOf.2.1 4 = .ok (.iload_n 3, 1) := by decide +kernel
theorem dk_Tr_lettersOf_5 : decode mi_Tr_lettersOf.2.1 5 = .ok (.aload_n 1, 1) := by decide +kernel
theorem dk_Tr_lettersOf_6 : decode mi_Tr_lettersOf.2.1 6 = .ok (.invokevirtual 90, 3) := by decide +kernel
theorem dk_Tr_lettersOf_9 : decode mi_Tr_lettersOf.2.1 9 = .ok (.if_icmp .ge 33, 3) := by decide +kernel
theorem dk_Tr_lettersOf_12 : decode mi_Tr_lettersOf.2.1 12 = .ok (.aload_n 0, 1) := by decide +kernel
theorem dk_Tr_lettersOf_13 : decode mi_Tr_lettersOf.2.1 13 = .ok (.aload_n 0, 1) := by decide +kernel
theorem dk_Tr_lettersOf_14 : decode mi_Tr_lettersOf.2.1 14 = .ok (.getfield 26, 3) := by decide +kernel
theorem dk_Tr_lettersOf_17 : decode mi_Tr_lettersOf.2.1 17 = .ok (.iload_n 3, 1) := by decide +kernel
theorem dk_Tr_lettersOf_18 : decode mi_Tr_lettersOf.2.1 18 = .ok (.iadd, 1) := by decide +kernel
theorem dk_Tr_lettersOf_19 : decode mi_Tr_lettersOf.2.1 19 = .ok (.aload_n 1, 1) := by decide +kernel
theorem dk_Tr_lettersOf_20 : decode mi_Tr_lettersOf.2.1 20 = .ok (.iload_n 3, 1) := by decide +kernel
theorem dk_Tr_lettersOf_21 : decode mi_Tr_lettersOf.2.1 21 = .ok (.invokevirtual 96, 3) := by decide +kernel
theorem dk_Tr_lettersOf_24 : decode mi_Tr_lettersOf.2.1 24 = .ok (.invokevirtual 66, 3) := by decide +kernel
theorem dk_Tr_lettersOf_27 : decode mi_Tr_lettersOf.2.1 27 = .ok (.ifCond .ne 6, 3) := by decide +kernel
theorem dk_Tr_lettersOf_30 : decode mi_Tr_lettersOf.2.1 30 = .ok (.goto 12, 3) := by decide +kernel
theorem dk_Tr_lettersOf_33 : decode mi_Tr_lettersOf.2.1 33 = .ok (.iinc 2 1, 3) := by decide +kernel
theorem dk_Tr_lettersOf_36 : decode mi_Tr_lettersOf.2.1 36 = .ok (.iinc 3 1, 3) := by decide +kernel
theorem dk_Tr_lettersOf_39 : decode mi_Tr_lettersOf.2.1 39 = .ok (.goto (-35), 3) := by decide +kernel
theorem dk_Tr_lettersOf_42 : decode mi_Tr_lettersOf.2.1 42 = .ok (.iload_n 2, 1) := by decide +kernel
theorem dk_Tr_lettersOf_43 : decode mi_Tr_lettersOf.2.1 43 = .ok (.ireturn, 1) := by decide +kernel
def Tr_lettersOf_l4 (o1 : Nat) (k_42 : Int32 → nm_St → Option (Int32 × nm_St)) : Nat → Int32 → Int32 → nm_St → Option (Int32 × nm_St)
  | 0, _, _, _ => none
  | n + 1, x2, x3, σ =>
    ((Js_length o1 σ).bind fun q1 =>
    (if q1.1 ≤ x3 then
      k_42 x2 q1.2
    else
      ((Js_charAt o1 x3 q1.2).bind fun q3 =>
      ((Tr_hasSign ((q1.2.1 42 3) + x3) q3.1 q3.2).bind fun q4 =>
      (if q4.1 = 0 then
        k_42 x2 q4.2
      else
        (Tr_lettersOf_l4 o1 k_42 n) (x2 + (1 : Int32)) (x3 + (1 : Int32)) q4.2)))))
set_option maxRecDepth 100000 in
set_option maxHeartbeats 4000000 in
theorem r_Tr_lettersOf_l4 (X : nm_X) (F : nm_F) (hF0 : 4 ≤ nm_d F) (o1 : Nat) (ho1 : nm_isS o1 = true) (k_42 : Int32 → nm_St → Option (Int32 × nm_St)) (hk_42 : ∀ (x2 : Int32) (σ : nm_St), Rn X mi_Tr_lettersOf F (nm_Qf X F nm_wI) [(2, .int x2)] [] 42 σ (k_42 x2 σ)) : ∀ (n : Nat) (x2 : Int32) (x3 : Int32) (σ : nm_St), Rn X mi_Tr_lettersOf F (nm_Qf X F nm_wI) [(0, .ref 42), (1, .ref o1), (2, .int x2), (3, .int x3)] [] 4 σ (Tr_lettersOf_l4 o1 k_42 n x2 x3 σ) := by
  intro n
  induction n with
  | zero =>
    intro x2 x3 σ
    exact rn_none
  | succ n ih =>
    intro x2 x3 σ
    unfold Tr_lettersOf_l4
    refine rn_iload_n (pc := 4) 3 dk_Tr_lettersOf_4 rfl rfl ?_
    refine rn_aload_n (pc := 5) 1 dk_Tr_lettersOf_5 rfl rfl (nm_rok_isS ho1) ?_
    refine cl_Tr_90 (pc := 6) (As := []) (st := [.int x3]) o1 ho1 rfl (ct_Js_length X o1 ho1 σ) (Nat.le_trans (Nat.le_of_ble_eq_true rfl) hF0) rfl rfl (Nat.le_of_ble_eq_true rfl) dk_Tr_lettersOf_6 (fun q1 => ?_)
    refine rn_icmp_ge (pc := 9) 42 dk_Tr_lettersOf_9 (by decide) (fun c2 => ?_) (fun c2 => ?_)
    · exact rn_sub (by rfl) (hk_42 x2 q1.2)
    · refine rn_aload_n (pc := 12) 0 dk_Tr_lettersOf_12 rfl rfl rfl ?_
      refine rn_aload_n (pc := 13) 0 dk_Tr_lettersOf_13 rfl rfl rfl ?_
      refine gf_Tr_26 (pc := 14) rfl dk_Tr_lettersOf_14 ?_
      refine rn_iload_n (pc := 17) 3 dk_Tr_lettersOf_17 rfl rfl ?_
      refine rn_iadd (pc := 18) dk_Tr_lettersOf_18 ?_
      refine rn_aload_n (pc := 19) 1 dk_Tr_lettersOf_19 rfl rfl (nm_rok_isS ho1) ?_
      refine rn_iload_n (pc := 20) 3 dk_Tr_lettersOf_20 rfl rfl ?_
      refine cl_Tr_96 (pc := 21) (As := [.int x3]) (st := [.int ((q1.2.1 42 3) + x3), .ref 42]) o1 ho1 rfl (ct_Js_charAt X o1 ho1 x3 q1.2) (Nat.le_trans (Nat.le_of_ble_eq_true rfl) hF0) rfl rfl (Nat.le_of_ble_eq_true rfl) dk_Tr_lettersOf_21 (fun q3 => ?_)
      refine cl_Tr_66 (pc := 24) (As := [.int ((q1.2.1 42 3) + x3), .int q3.1]) (st := []) rfl (ct_Tr_hasSign X ((q1.2.1 42 3) + x3) q3.1 q3.2) (Nat.le_trans (Nat.le_of_ble_eq_true rfl) hF0) rfl rfl (Nat.le_of_ble_eq_true rfl) dk_Tr_lettersOf_24 (fun q4 => ?_)
      refine rn_if_ne (pc := 27) 33 dk_Tr_lettersOf_27 (by decide) (fun c5 => ?_) (fun c5 => ?_)
      · refine rn_iinc (pc := 33) (1 : Int32) dk_Tr_lettersOf_33 cn_i_1 rfl rfl rfl ?_
        refine rn_iinc (pc := 36) (1 : Int32) dk_Tr_lettersOf_36 cn_i_1 rfl rfl rfl ?_
        refine rn_goto (pc := 39) 4 dk_Tr_lettersOf_39 (by decide) ?_
        exact rn_sub (by rfl) (ih (x2 + (1 : Int32)) (x3 + (1 : Int32)) q4.2)
      · refine rn_goto (pc := 30) 42 dk_Tr_lettersOf_30 (by decide) ?_
        exact rn_sub (by rfl) (hk_42 x2 q4.2)
def Tr_lettersOf (o1 : Nat) (σ : nm_St) : Option (Int32 × nm_St) :=
  Tr_lettersOf_l4 o1 (fun (e7 : Int32) (s6 : nm_St) =>
    some (e7, s6)) 400 (0 : Int32) (0 : Int32) σ
set_option maxRecDepth 100000 in
set_option maxHeartbeats 4000000 in
theorem ct_Tr_lettersOf (X : nm_X) (o1 : Nat) (ho1 : nm_isS o1 = true) (σ : nm_St) : Ct X mi_Tr_lettersOf 4 nm_wI [.ref 42, .ref o1] σ (Tr_lettersOf o1 σ) := by
  refine Ct.of (by decide +kernel) rfl (fun F hF0 => ?_)
  unfold Tr_lettersOf
  refine rn_iconst (pc := 0) (0 : Int32) dk_Tr_lettersOf_0 cn_i_0 ?_
  refine rn_istore_n (pc := 1) 2 dk_Tr_lettersOf_1 rfl rfl rfl ?_
  refine rn_iconst (pc := 2) (0 : Int32) dk_Tr_lettersOf_2 cn_i_0 ?_
  refine rn_istore_n (pc := 3) 3 dk_Tr_lettersOf_3 rfl rfl rfl ?_
  refine rn_sub (by rfl) (r_Tr_lettersOf_l4 X F hF0 o1 ho1 _ (fun e7 s6 => ?_) 400 (0 : Int32) (0 : Int32) σ)
  refine rn_iload_n (pc := 42) 2 dk_Tr_lettersOf_42 rfl rfl ?_
  exact rn_iret rfl dk_Tr_lettersOf_43
theorem dk_Tr_wordBy_0 : decode mi_Tr_wordBy.2.1 0 = .ok (.iload_n 0, 1) := by decide +kernel
theorem dk_Tr_wordBy_1 : decode mi_Tr_wordBy.2.1 1 = .ok (.tableswitch 64 0 6 #[43, 46, 49, 52, 55, 58, 61], 43) := by decide +kernel
theorem dk_Tr_wordBy_44 : decode mi_Tr_wordBy.2.1 44 = .ok (.ldc 74, 2) := by decide +kernel
theorem dk_Tr_wordBy_46 : decode mi_Tr_wordBy.2.1 46 = .ok (.areturn, 1) := by decide +kernel
theorem dk_Tr_wordBy_47 : decode mi_Tr_wordBy.2.1 47 = .ok (.ldc 76, 2) := by decide +kernel
theorem dk_Tr_wordBy_49 : decode mi_Tr_wordBy.2.1 49 = .ok (.areturn, 1) := by decide +kernel
theorem dk_Tr_wordBy_50 : decode mi_Tr_wordBy.2.1 50 = .ok (.ldc 78, 2) := by decide +kernel
theorem dk_Tr_wordBy_52 : decode mi_Tr_wordBy.2.1 52 = .ok (.areturn, 1) := by decide +kernel
theorem dk_Tr_wordBy_53 : decode mi_Tr_wordBy.2.1 53 = .ok (.ldc 80, 2) := by decide +kernel
theorem dk_Tr_wordBy_55 : decode mi_Tr_wordBy.2.1 55 = .ok (.areturn, 1) := by decide +kernel
theorem dk_Tr_wordBy_56 : decode mi_Tr_wordBy.2.1 56 = .ok (.ldc 82, 2) := by decide +kernel
theorem dk_Tr_wordBy_58 : decode mi_Tr_wordBy.2.1 58 = .ok (.areturn, 1) := by decide +kernel
theorem dk_Tr_wordBy_59 : decode mi_Tr_wordBy.2.1 59 = .ok (.ldc 84, 2) := by decide +kernel
theorem dk_Tr_wordBy_61 : decode mi_Tr_wordBy.2.1 61 = .ok (.areturn, 1) := by decide +kernel
theorem dk_Tr_wordBy_62 : decode mi_Tr_wordBy.2.1 62 = .ok (.ldc 86, 2) := by decide +kernel
theorem dk_Tr_wordBy_64 : decode mi_Tr_wordBy.2.1 64 = .ok (.areturn, 1) := by decide +kernel
theorem dk_Tr_wordBy_65 : decode mi_Tr_wordBy.2.1 65 = .ok (.ldc 88, 2) := by decide +kernel
theorem dk_Tr_wordBy_67 : decode mi_Tr_wordBy.2.1 67 = .ok (.areturn, 1) := by decide +kernel
def Tr_wordBy (p0 : Int32) (σ : nm_St) : Option (Nat × nm_St) :=
  (if p0 = (0 : Int32) then
    some (2000, σ)
  else
  (if p0 = (1 : Int32) then
    some (2001, σ)
  else
  (if p0 = (2 : Int32) then
    some (2002, σ)
  else
  (if p0 = (3 : Int32) then
    some (2003, σ)
  else
  (if p0 = (4 : Int32) then
    some (2004, σ)
  else
  (if p0 = (5 : Int32) then
    some (2005, σ)
  else
  (if p0 = (6 : Int32) then
    some (2006, σ)
  else
    some (2007, σ))))))))
set_option maxRecDepth 100000 in
set_option maxHeartbeats 4000000 in
theorem ct_Tr_wordBy (X : nm_X) (p0 : Int32) (σ : nm_St) : Ct X mi_Tr_wordBy 0 nm_wR [.int p0] σ (Tr_wordBy p0 σ) := by
  refine Ct.of (by decide +kernel) rfl (fun F hF0 => ?_)
  unfold Tr_wordBy
  refine rn_iload_n (pc := 0) 0 dk_Tr_wordBy_0 rfl rfl ?_
  refine rn_tcase (pc := 1) 0 (0 : Int32) 44 dk_Tr_wordBy_1 (by decide) (by decide) rfl (by decide) (fun c1_0 => ?_) (fun c1_0 => ?_)
  · refine rn_ldcS (pc := 44) 0 (by decide) rfl dk_Tr_wordBy_44 ?_
    exact rn_aret rfl rfl dk_Tr_wordBy_46
  refine rn_tcase (pc := 1) 1 (1 : Int32) 47 dk_Tr_wordBy_1 (by decide) (by decide) rfl (by decide) (fun c1_1 => ?_) (fun c1_1 => ?_)
  · refine rn_ldcS (pc := 47) 1 (by decide) rfl dk_Tr_wordBy_47 ?_
    exact rn_aret rfl rfl dk_Tr_wordBy_49
  refine rn_tcase (pc := 1) 2 (2 : Int32) 50 dk_Tr_wordBy_1 (by decide) (by decide) rfl (by decide) (fun c1_2 => ?_) (fun c1_2 => ?_)
  · refine rn_ldcS (pc := 50) 2 (by decide) rfl dk_Tr_wordBy_50 ?_
    exact rn_aret rfl rfl dk_Tr_wordBy_52
  refine rn_tcase (pc := 1) 3 (3 : Int32) 53 dk_Tr_wordBy_1 (by decide) (by decide) rfl (by decide) (fun c1_3 => ?_) (fun c1_3 => ?_)
  · refine rn_ldcS (pc := 53) 3 (by decide) rfl dk_Tr_wordBy_53 ?_
    exact rn_aret rfl rfl dk_Tr_wordBy_55
  refine rn_tcase (pc := 1) 4 (4 : Int32) 56 dk_Tr_wordBy_1 (by decide) (by decide) rfl (by decide) (fun c1_4 => ?_) (fun c1_4 => ?_)
  · refine rn_ldcS (pc := 56) 4 (by decide) rfl dk_Tr_wordBy_56 ?_
    exact rn_aret rfl rfl dk_Tr_wordBy_58
  refine rn_tcase (pc := 1) 5 (5 : Int32) 59 dk_Tr_wordBy_1 (by decide) (by decide) rfl (by decide) (fun c1_5 => ?_) (fun c1_5 => ?_)
  · refine rn_ldcS (pc := 59) 5 (by decide) rfl dk_Tr_wordBy_59 ?_
    exact rn_aret rfl rfl dk_Tr_wordBy_61
  refine rn_tcase (pc := 1) 6 (6 : Int32) 62 dk_Tr_wordBy_1 (by decide) (by decide) rfl (by decide) (fun c1_6 => ?_) (fun c1_6 => ?_)
  · refine rn_ldcS (pc := 62) 6 (by decide) rfl dk_Tr_wordBy_62 ?_
    exact rn_aret rfl rfl dk_Tr_wordBy_64
  refine rn_tdef (pc := 1) [(0 : Int32), (1 : Int32), (2 : Int32), (3 : Int32), (4 : Int32), (5 : Int32), (6 : Int32)] 65 dk_Tr_wordBy_1 (by decide) (by decide) (List.forall_mem_cons.mpr ⟨c1_0, (List.forall_mem_cons.mpr ⟨c1_1, (List.forall_mem_cons.mpr ⟨c1_2, (List.forall_mem_cons.mpr ⟨c1_3, (List.forall_mem_cons.mpr ⟨c1_4, (List.forall_mem_cons.mpr ⟨c1_5, (List.forall_mem_cons.mpr ⟨c1_6, (fun _ h => absurd h List.not_mem_nil)⟩)⟩)⟩)⟩)⟩)⟩)⟩) (by decide) ?_
  refine rn_ldcS (pc := 65) 7 (by decide) rfl dk_Tr_wordBy_65 ?_
  exact rn_aret rfl rfl dk_Tr_wordBy_67
theorem dk_Tr_readWord_0 : decode mi_Tr_readWord.2.1 0 = .ok (.iconst 0, 1) := by decide +kernel
theorem dk_Tr_readWord_1 : decode mi_Tr_readWord.2.1 1 = .ok (.istore_n 1, 1) := by decide +kernel
theorem dk_Tr_readWord_2 : decode mi_Tr_readWord.2.1 2 = .ok (.iconst 0, 1) := by decide +kernel
theorem dk_Tr_readWord_3 : decode mi_Tr_readWord.2.1 3 = .ok (.istore_n 2, 1) := by decide +kernel
theorem dk_Tr_readWord_4 : decode mi_Tr_readWord.2.1 4 = .ok (.iload_n 2, 1) := by decide +kernel
theorem dk_Tr_readWord_5 : decode mi_Tr_readWord.2.1 5 = .ok (.bipush 8, 2) := by decide +kernel
theorem dk_Tr_readWord_7 : decode mi_Tr_readWord.2.1 7 = .ok (.if_icmp .ge 50, 3) := by decide +kernel
theorem dk_Tr_readWord_10 : decode mi_Tr_readWord.2.1 10 = .ok (.iload_n 2, 1) := by decide +kernel
theorem dk_Tr_readWord_11 : decode mi_Tr_readWord.2.1 11 = .ok (.invokestatic 100, 3) := by decide +kernel
theorem dk_Tr_readWord_14 : decode mi_Tr_readWord.2.1 14 = .ok (.astore_n 3, 1) := by decide +kernel
theorem dk_Tr_readWord_15 : decode mi_Tr_readWord.2.1 15 = .ok (.aload_n 0, 1) := by decide +kernel
theorem dk_Tr_readWord_16 : decode mi_Tr_readWord.2.1 16 = .ok (.aload_n 3, 1) := by decide +kernel
theorem dk_Tr_readWord_17 : decode mi_Tr_readWord.2.1 17 = .ok (.invokevirtual 104, 3) := by decide +kernel
theorem dk_Tr_readWord_20 : decode mi_Tr_readWord.2.1 20 = .ok (.istore 4, 2) := by decide +kernel
theorem dk_Tr_readWord_22 : decode mi_Tr_readWord.2.1 22 = .ok (.iload 4, 2) := by decide +kernel
theorem dk_Tr_readWord_24 : decode mi_Tr_readWord.2.1 24 = .ok (.aload_n 3, 1) := by decide +kernel
theorem dk_Tr_readWord_25 : decode mi_Tr_readWord.2.1 25 = .ok (.invokevirtual 90, 3) := by decide +kernel
theorem dk_Tr_readWord_28 : decode mi_Tr_readWord.2.1 28 = .ok (.if_icmp .ne 16, 3) := by decide +kernel
theorem dk_Tr_readWord_31 : decode mi_Tr_readWord.2.1 31 = .ok (.aload_n 0, 1) := by decide +kernel
theorem dk_Tr_readWord_32 : decode mi_Tr_readWord.2.1 32 = .ok (.dup, 1) := by decide +kernel
theorem dk_Tr_readWord_33 : decode mi_Tr_readWord.2.1 33 = .ok (.getfield 26, 3) := by decide +kernel
theorem dk_Tr_readWord_36 : decode mi_Tr_readWord.2.1 36 = .ok (.iload 4, 2) := by decide +kernel
theorem dk_Tr_readWord_38 : decode mi_Tr_readWord.2.1 38 = .ok (.iadd, 1) := by decide +kernel
theorem dk_Tr_readWord_39 : decode mi_Tr_readWord.2.1 39 = .ok (.putfield 26, 3) := by decide +kernel
theorem dk_Tr_readWord_42 : decode mi_Tr_readWord.2.1 42 = .ok (.iload_n 2, 1) := by decide +kernel
theorem dk_Tr_readWord_43 : decode mi_Tr_readWord.2.1 43 = .ok (.ireturn, 1) := by decide +kernel
theorem dk_Tr_readWord_44 : decode mi_Tr_readWord.2.1 44 = .ok (.iload_n 1, 1) := by decide +kernel
theorem dk_Tr_readWord_45 : decode mi_Tr_readWord.2.1 45 = .ok (.iload 4, 2) := by decide +kernel
theorem dk_Tr_readWord_47 : decode mi_Tr_readWord.2.1 47 = .ok (.invokestatic 108, 3) := by decide +kernel
theorem dk_Tr_readWord_50 : decode mi_Tr_readWord.2.1 50 = .ok (.istore_n 1, 1) := by decide +kernel
theorem dk_Tr_readWord_51 : decode mi_Tr_readWord.2.1 51 = .ok (.iinc 2 1, 3) := by decide +kernel
theorem dk_Tr_readWord_54 : decode mi_Tr_readWord.2.1 54 = .ok (.goto (-50), 3) := by decide +kernel
theorem dk_Tr_readWord_57 : decode mi_Tr_readWord.2.1 57 = .ok (.aload_n 0, 1) := by decide +kernel
theorem dk_Tr_readWord_58 : decode mi_Tr_readWord.2.1 58 = .ok (.aload_n 0, 1) := by decide +kernel
theorem dk_Tr_readWord_59 : decode mi_Tr_readWord.2.1 59 = .ok (.getfield 26, 3) := by decide +kernel
theorem dk_Tr_readWord_62 : decode mi_Tr_readWord.2.1 62 = .ok (.iload_n 1, 1) := by decide +kernel
theorem dk_Tr_readWord_63 : decode mi_Tr_readWord.2.1 63 = .ok (.iadd, 1) := by decide +kernel
theorem dk_Tr_readWord_64 : decode mi_Tr_readWord.2.1 64 = .ok (.invokevirtual 70, 3) := by decide +kernel
theorem dk_Tr_readWord_67 : decode mi_Tr_readWord.2.1 67 = .ok (.iconst (-1), 1) := by decide +kernel
theorem dk_Tr_readWord_68 : decode mi_Tr_readWord.2.1 68 = .ok (.ireturn, 1) := by decide +kernel
def Tr_readWord_l4 (k_57 : Int32 → nm_St → Option (Int32 × nm_St)) : Nat → Int32 → Int32 → nm_St → Option (Int32 × nm_St)
  | 0, _, _, _ => none
  | n + 1, x1, x2, σ =>
    (if (8 : Int32) ≤ x2 then
      k_57 x1 σ
    else
      ((Tr_wordBy x2 σ).bind fun q2 =>
      (nm_g (nm_isS q2.1) (
      ((Tr_lettersOf q2.1 q2.2).bind fun q4 =>
      ((Js_length q2.1 q4.2).bind fun q5 =>
      (if q4.1 = q5.1 then
        (nm_let (nm_pI q5.2 42 3 ((q5.2.1 42 3) + q4.1)) fun s8 =>
        some (x2, s8))
      else
        (nm_let ((if x1 < q4.1 then q4.1 else x1)) fun v7 =>
        (Tr_readWord_l4 k_57 n) v7 (x2 + (1 : Int32)) q5.2))))))))
set_option maxRecDepth 100000 in
set_option maxHeartbeats 4000000 in
theorem r_Tr_readWord_l4 (X : nm_X) (F : nm_F) (hF0 : 5 ≤ nm_d F) (k_57 : Int32 → nm_St → Option (Int32 × nm_St)) (hk_57 : ∀ (x1 : Int32) (σ : nm_St), Rn X mi_Tr_readWord F (nm_Qf X F nm_wI) [(0, .ref 42), (1, .int x1)] [] 57 σ (k_57 x1 σ)) : ∀ (n : Nat) (x1 : Int32) (x2 : Int32) (σ : nm_St), Rn X mi_Tr_readWord F (nm_Qf X F nm_wI) [(0, .ref 42), (1, .int x1), (2, .int x2)] [] 4 σ (Tr_readWord_l4 k_57 n x1 x2 σ) := by
  intro n
  induction n with
  | zero =>
    intro x1 x2 σ
    exact rn_none
  | succ n ih =>
    intro x1 x2 σ
    unfold Tr_readWord_l4
    refine rn_iload_n (pc := 4) 2 dk_Tr_readWord_4 rfl rfl ?_
    refine rn_bipush (pc := 5) (8 : Int32) dk_Tr_readWord_5 cn_b_8 ?_
    refine rn_icmp_ge (pc := 7) 57 dk_Tr_readWord_7 (by decide) (fun c1 => ?_) (fun c1 => ?_)
    · exact rn_sub (by rfl) (hk_57 x1 σ)
    · refine rn_iload_n (pc := 10) 2 dk_Tr_readWord_10 rfl rfl ?_
      refine cl_Tr_100 (pc := 11) (As := [.int x2]) (st := []) rfl (ct_Tr_wordBy X x2 σ) (Nat.le_trans (Nat.le_of_ble_eq_true rfl) hF0) rfl rfl (Nat.le_of_ble_eq_true rfl) dk_Tr_readWord_11 (fun q2 => ?_)
      refine rn_guard (fun h3 => ?_)
      refine rn_astore_n (pc := 14) 3 dk_Tr_readWord_14 rfl (nm_rok_isS h3) rfl rfl ?_
      refine rn_aload_n (pc := 15) 0 dk_Tr_readWord_15 rfl rfl rfl ?_
      refine rn_aload_n (pc := 16) 3 dk_Tr_readWord_16 rfl rfl (nm_rok_isS h3) ?_
      refine cl_Tr_104 (pc := 17) (As := [.ref q2.1]) (st := []) rfl (ct_Tr_lettersOf X q2.1 h3 q2.2) (Nat.le_trans (Nat.le_of_ble_eq_true rfl) hF0) rfl rfl (Nat.le_of_ble_eq_true rfl) dk_Tr_readWord_17 (fun q4 => ?_)
      refine rn_istore (pc := 20) dk_Tr_readWord_20 rfl rfl ?_
      refine rn_iload (pc := 22) dk_Tr_readWord_22 rfl ?_
      refine rn_aload_n (pc := 24) 3 dk_Tr_readWord_24 rfl rfl (nm_rok_isS h3) ?_
      refine cl_Tr_90 (pc := 25) (As := []) (st := [.int q4.1]) q2.1 h3 rfl (ct_Js_length X q2.1 h3 q4.2) (Nat.le_trans (Nat.le_of_ble_eq_true rfl) hF0) rfl rfl (Nat.le_of_ble_eq_true rfl) dk_Tr_readWord_25 (fun q5 => ?_)
      refine rn_icmp_ne (pc := 28) 44 dk_Tr_readWord_28 (by decide) (fun c6 => ?_) (fun c6 => ?_)
      · refine rn_iload_n (pc := 44) 1 dk_Tr_readWord_44 rfl rfl ?_
        refine rn_iload (pc := 45) dk_Tr_readWord_45 rfl ?_
        refine rn_mmax (pc := 47) (Nat.le_trans (Nat.le_of_ble_eq_true rfl) hF0) wd_614 (Nat.le_of_ble_eq_true rfl) dk_Tr_readWord_47 ?_
        refine rn_leti (fun v7 => ?_)
        refine rn_istore_n (pc := 50) 1 dk_Tr_readWord_50 rfl rfl rfl ?_
        refine rn_iinc (pc := 51) (1 : Int32) dk_Tr_readWord_51 cn_i_1 rfl rfl rfl ?_
        refine rn_goto (pc := 54) 4 dk_Tr_readWord_54 (by decide) ?_
        exact rn_sub (by rfl) (ih v7 (x2 + (1 : Int32)) q5.2)
      · refine rn_aload_n (pc := 31) 0 dk_Tr_readWord_31 rfl rfl rfl ?_
        refine rn_dup (pc := 32) dk_Tr_readWord_32 rfl ?_
        refine gf_Tr_26 (pc := 33) rfl dk_Tr_readWord_33 ?_
        refine rn_iload (pc := 36) dk_Tr_readWord_36 rfl ?_
        refine rn_iadd (pc := 38) dk_Tr_readWord_38 ?_
        refine pf_Tr_26 (pc := 39) rfl dk_Tr_readWord_39 ?_
        refine rn_lets (fun s8 => ?_)
        refine rn_iload_n (pc := 42) 2 dk_Tr_readWord_42 rfl rfl ?_
        exact rn_iret rfl dk_Tr_readWord_43
def Tr_readWord (σ : nm_St) : Option (Int32 × nm_St) :=
  Tr_readWord_l4 (fun (e10 : Int32) (s9 : nm_St) =>
    ((Tr_fail ((s9.1 42 3) + e10) s9).bind fun q11 =>
    some ((-1 : Int32), q11.2))) 400 (0 : Int32) (0 : Int32) σ
set_option maxRecDepth 100000 in
set_option maxHeartbeats 4000000 in
theorem ct_Tr_readWord (X : nm_X) (σ : nm_St) : Ct X mi_Tr_readWord 5 nm_wI [.ref 42] σ (Tr_readWord σ) := by
  refine Ct.of (by decide +kernel) rfl (fun F hF0 => ?_)
  unfold Tr_readWord
  refine rn_iconst (pc := 0) (0 : Int32) dk_Tr_readWord_0 cn_i_0 ?_
  refine rn_istore_n (pc := 1) 1 dk_Tr_readWord_1 rfl rfl rfl ?_
  refine rn_iconst (pc := 2) (0 : Int32) dk_Tr_readWord_2 cn_i_0 ?_
  refine rn_istore_n (pc := 3) 2 dk_Tr_readWord_3 rfl rfl rfl ?_
  refine rn_sub (by rfl) (r_Tr_readWord_l4 X F hF0 _ (fun e10 s9 => ?_) 400 (0 : Int32) (0 : Int32) σ)
  refine rn_aload_n (pc := 57) 0 dk_Tr_readWord_57 rfl rfl rfl ?_
  refine rn_aload_n (pc := 58) 0 dk_Tr_readWord_58 rfl rfl rfl ?_
  refine gf_Tr_26 (pc := 59) rfl dk_Tr_readWord_59 ?_
  refine rn_iload_n (pc := 62) 1 dk_Tr_readWord_62 rfl rfl ?_
  refine rn_iadd (pc := 63) dk_Tr_readWord_63 ?_
  refine cl_Tr_70 (pc := 64) (As := [.int ((s9.1 42 3) + e10)]) (st := []) rfl (ct_Tr_fail X ((s9.1 42 3) + e10) s9) (Nat.le_trans (Nat.le_of_ble_eq_true rfl) hF0) rfl rfl (Nat.le_of_ble_eq_true rfl) dk_Tr_readWord_64 (fun q11 => ?_)
  refine rn_iconst (pc := 67) (-1 : Int32) dk_Tr_readWord_67 cn_i_m1 ?_
  exact rn_iret rfl dk_Tr_readWord_68
theorem dk_Tr_readItem_0 : decode mi_Tr_readItem.2.1 0 = .ok (.aload_n 0, 1) := by decide +kernel
theorem dk_Tr_readItem_1 : decode mi_Tr_readItem.2.1 1 = .ok (.getfield 26, 3) := by decide +kernel
theorem dk_Tr_readItem_4 : decode mi_Tr_readItem.2.1 4 = .ok (.istore_n 1, 1) := by decide +kernel
theorem dk_Tr_readItem_5 : decode mi_Tr_readItem.2.1 5 = .ok (.aload_n 0, 1) := by decide +kernel
theorem dk_Tr_readItem_6 : decode mi_Tr_readItem.2.1 6 = .ok (.invokevirtual 118, 3) := by decide +kernel
theorem dk_Tr_readItem_9 : decode mi_Tr_readItem.2.1 9 = .ok (.tableswitch 100 (-1) 6 #[97, 47, 54, 62, 69, 76, 83, 90], 47) := by decide +kernel
theorem dk_Tr_readItem_56 : decode mi_Tr_readItem.2.1 56 = .ok (.aload_n 0, 1) := by decide +kernel
theorem dk_Tr_readItem_57 : decode mi_Tr_readItem.2.1 57 = .ok (.invokevirtual 121, 3) := by decide +kernel
theorem dk_Tr_readItem_60 : decode mi_Tr_readItem.2.1 60 = .ok (.goto 53, 3) := by decide +kernel
theorem dk_Tr_readItem_63 : decode mi_Tr_readItem.2.1 63 = .ok (.aload_n 0, 1) := by decide +kernel
theorem dk_Tr_readItem_64 : decode mi_Tr_readItem.2.1 64 = .ok (.iload_n 1, 1) := by decide +kernel
theorem dk_Tr_readItem_65 : decode mi_Tr_readItem.2.1 65 = .ok (.invokevirtual 124, 3) := by decide +kernel
theorem dk_Tr_readItem_68 : decode mi_Tr_readItem.2.1 68 = .ok (.goto 45, 3) := by decide +kernel
theorem dk_Tr_readItem_71 : decode mi_Tr_readItem.2.1 71 = .ok (.aload_n 0, 1) := by decide +kernel
theorem dk_Tr_readItem_72 : decode mi_Tr_readItem.2.1 72 = .ok (.invokevirtual 127, 3) := by decide +kernel
theorem dk_Tr_readItem_75 : decode mi_Tr_readItem.2.1 75 = .ok (.goto 38, 3) := by decide +kernel
theorem dk_Tr_readItem_78 : decode mi_Tr_readItem.2.1 78 = .ok (.aload_n 0, 1) := by decide +kernel
theorem dk_Tr_readItem_79 : decode mi_Tr_readItem.2.1 79 = .ok (.invokevirtual 130, 3) := by decide +kernel
theorem dk_Tr_readItem_82 : decode mi_Tr_readItem.2.1 82 = .ok (.goto 31, 3) := by decide +kernel
theorem dk_Tr_readItem_85 : decode mi_Tr_readItem.2.1 85 = .ok (.aload_n 0, 1) := by decide +kernel
theorem dk_Tr_readItem_86 : decode mi_Tr_readItem.2.1 86 = .ok (.invokevirtual 133, 3) := by decide +kernel
theorem dk_Tr_readItem_89 : decode mi_Tr_readItem.2.1 89 = .ok (.goto 24, 3) := by decide +kernel
theorem dk_Tr_readItem_92 : decode mi_Tr_readItem.2.1 92 = .ok (.aload_n 0, 1) := by decide +kernel
theorem dk_Tr_readItem_93 : decode mi_Tr_readItem.2.1 93 = .ok (.invokevirtual 136, 3) := by decide +kernel
theorem dk_Tr_readItem_96 : decode mi_Tr_readItem.2.1 96 = .ok (.goto 17, 3) := by decide +kernel
theorem dk_Tr_readItem_99 : decode mi_Tr_readItem.2.1 99 = .ok (.aload_n 0, 1) := by decide +kernel
theorem dk_Tr_readItem_100 : decode mi_Tr_readItem.2.1 100 = .ok (.invokevirtual 139, 3) := by decide +kernel
theorem dk_Tr_readItem_103 : decode mi_Tr_readItem.2.1 103 = .ok (.goto 10, 3) := by decide +kernel
theorem dk_Tr_readItem_106 : decode mi_Tr_readItem.2.1 106 = .ok (.goto 7, 3) := by decide +kernel
theorem dk_Tr_readItem_109 : decode mi_Tr_readItem.2.1 109 = .ok (.aload_n 0, 1) := by decide +kernel
theorem dk_Tr_readItem_110 : decode mi_Tr_readItem.2.1 110 = .ok (.invokevirtual 142, 3) := by decide +kernel
theorem dk_Tr_readItem_113 : decode mi_Tr_readItem.2.1 113 = .ok (.return_, 1) := by decide +kernel
def Tr_readItem (σ : nm_St) : Option (Unit × nm_St) :=
  ((Tr_readWord σ).bind fun q1 =>
  (if q1.1 = (-1 : Int32) then
    some ((), q1.2)
  else
  (if q1.1 = (0 : Int32) then
    ((Tr_readParts q1.2).bind fun q3 =>
    some ((), q3.2))
  else
  (if q1.1 = (1 : Int32) then
    ((Tr_readNewMaker (σ.1 42 3) q1.2).bind fun q4 =>
    some ((), q4.2))
  else
  (if q1.1 = (2 : Int32) then
    ((Tr_readKnows q1.2).bind fun q5 =>
    some ((), q5.2))
  else
  (if q1.1 = (3 : Int32) then
    ((Tr_readKin q1.2).bind fun q6 =>
    some ((), q6.2))
  else
  (if q1.1 = (4 : Int32) then
    ((Tr_readFear q1.2).bind fun q7 =>
    some ((), q7.2))
  else
  (if q1.1 = (5 : Int32) then
    ((Tr_readPurse q1.2).bind fun q8 =>
    some ((), q8.2))
  else
  (if q1.1 = (6 : Int32) then
    ((Tr_readGoes q1.2).bind fun q9 =>
    some ((), q9.2))
  else
    ((Tr_readDies q1.2).bind fun q10 =>
    some ((), q10.2)))))))))))
set_option maxRecDepth 100000 in
set_option maxHeartbeats 4000000 in
theorem ct_Tr_readItem (X : nm_X) (σ : nm_St) : Ct X mi_Tr_readItem 6 nm_wV [.ref 42] σ (Tr_readItem σ) := by
  refine Ct.of (by decide +kernel) rfl (fun F hF0 => ?_)
  unfold Tr_readItem
  refine rn_aload_n (pc := 0) 0 dk_Tr_readItem_0 rfl rfl rfl ?_
  refine gf_Tr_26 (pc := 1) rfl dk_Tr_readItem_1 ?_
  refine rn_istore_n (pc := 4) 1 dk_Tr_readItem_4 rfl rfl rfl ?_
  refine rn_aload_n (pc := 5) 0 dk_Tr_readItem_5 rfl rfl rfl ?_
  refine cl_Tr_118 (pc := 6) (As := []) (st := []) rfl (ct_Tr_readWord X σ) (Nat.le_trans (Nat.le_of_ble_eq_true rfl) hF0) rfl rfl (Nat.le_of_ble_eq_true rfl) dk_Tr_readItem_6 (fun q1 => ?_)
  refine rn_tcase (pc := 9) 0 (-1 : Int32) 106 dk_Tr_readItem_9 (by decide) (by decide) rfl (by decide) (fun c2_0 => ?_) (fun c2_0 => ?_)
  · refine rn_goto (pc := 106) 113 dk_Tr_readItem_106 (by decide) ?_
    exact rn_vret rfl dk_Tr_readItem_113
  refine rn_tcase (pc := 9) 1 (0 : Int32) 56 dk_Tr_readItem_9 (by decide) (by decide) rfl (by decide) (fun c2_1 => ?_) (fun c2_1 => ?_)
  · refine rn_aload_n (pc := 56) 0 dk_Tr_readItem_56 rfl rfl rfl ?_
    refine cl_Tr_121 (pc := 57) (As := []) (st := []) rfl (ct_Tr_readParts X q1.2) (Nat.le_trans (Nat.le_of_ble_eq_true rfl) hF0) rfl rfl (Nat.le_of_ble_eq_true rfl) dk_Tr_readItem_57 (fun q3 => ?_)
    refine rn_goto (pc := 60) 113 dk_Tr_readItem_60 (by decide) ?_
    exact rn_vret rfl dk_Tr_readItem_113
  refine rn_tcase (pc := 9) 2 (1 : Int32) 63 dk_Tr_readItem_9 (by decide) (by decide) rfl (by decide) (fun c2_2 => ?_) (fun c2_2 => ?_)
  · refine rn_aload_n (pc := 63) 0 dk_Tr_readItem_63 rfl rfl rfl ?_
    refine rn_iload_n (pc := 64) 1 dk_Tr_readItem_64 rfl rfl ?_
    refine cl_Tr_124 (pc := 65) (As := [.int (σ.1 42 3)]) (st := []) rfl (ct_Tr_readNewMaker X (σ.1 42 3) q1.2) (Nat.le_trans (Nat.le_of_ble_eq_true rfl) hF0) rfl rfl (Nat.le_of_ble_eq_true rfl) dk_Tr_readItem_65 (fun q4 => ?_)
    refine rn_goto (pc := 68) 113 dk_Tr_readItem_68 (by decide) ?_
    exact rn_vret rfl dk_Tr_readItem_113
  refine rn_tcase (pc := 9) 3 (2 : Int32) 71 dk_Tr_readItem_9 (by decide) (by decide) rfl (by decide) (fun c2_3 => ?_) (fun c2_3 => ?_)
  · refine rn_aload_n (pc := 71) 0 dk_Tr_readItem_71 rfl rfl rfl ?_
    refine cl_Tr_127 (pc := 72) (As := []) (st := []) rfl (ct_Tr_readKnows X q1.2) (Nat.le_trans (Nat.le_of_ble_eq_true rfl) hF0) rfl rfl (Nat.le_of_ble_eq_true rfl) dk_Tr_readItem_72 (fun q5 => ?_)
    refine rn_goto (pc := 75) 113 dk_Tr_readItem_75 (by decide) ?_
    exact rn_vret rfl dk_Tr_readItem_113
  refine rn_tcase (pc := 9) 4 (3 : Int32) 78 dk_Tr_readItem_9 (by decide) (by decide) rfl (by decide) (fun c2_4 => ?_) (fun c2_4 => ?_)
  · refine rn_aload_n (pc := 78) 0 dk_Tr_readItem_78 rfl rfl rfl ?_
    refine cl_Tr_130 (pc := 79) (As := []) (st := []) rfl (ct_Tr_readKin X q1.2) (Nat.le_trans (Nat.le_of_ble_eq_true rfl) hF0) rfl rfl (Nat.le_of_ble_eq_true rfl) dk_Tr_readItem_79 (fun q6 => ?_)
    refine rn_goto (pc := 82) 113 dk_Tr_readItem_82 (by decide) ?_
    exact rn_vret rfl dk_Tr_readItem_113
  refine rn_tcase (pc := 9) 5 (4 : Int32) 85 dk_Tr_readItem_9 (by decide) (by decide) rfl (by decide) (fun c2_5 => ?_) (fun c2_5 => ?_)
  · refine rn_aload_n (pc := 85) 0 dk_Tr_readItem_85 rfl rfl rfl ?_
    refine cl_Tr_133 (pc := 86) (As := []) (st := []) rfl (ct_Tr_readFear X q1.2) (Nat.le_trans (Nat.le_of_ble_eq_true rfl) hF0) rfl rfl (Nat.le_of_ble_eq_true rfl) dk_Tr_readItem_86 (fun q7 => ?_)
    refine rn_goto (pc := 89) 113 dk_Tr_readItem_89 (by decide) ?_
    exact rn_vret rfl dk_Tr_readItem_113
  refine rn_tcase (pc := 9) 6 (5 : Int32) 92 dk_Tr_readItem_9 (by decide) (by decide) rfl (by decide) (fun c2_6 => ?_) (fun c2_6 => ?_)
  · refine rn_aload_n (pc := 92) 0 dk_Tr_readItem_92 rfl rfl rfl ?_
    refine cl_Tr_136 (pc := 93) (As := []) (st := []) rfl (ct_Tr_readPurse X q1.2) (Nat.le_trans (Nat.le_of_ble_eq_true rfl) hF0) rfl rfl (Nat.le_of_ble_eq_true rfl) dk_Tr_readItem_93 (fun q8 => ?_)
    refine rn_goto (pc := 96) 113 dk_Tr_readItem_96 (by decide) ?_
    exact rn_vret rfl dk_Tr_readItem_113
  refine rn_tcase (pc := 9) 7 (6 : Int32) 99 dk_Tr_readItem_9 (by decide) (by decide) rfl (by decide) (fun c2_7 => ?_) (fun c2_7 => ?_)
  · refine rn_aload_n (pc := 99) 0 dk_Tr_readItem_99 rfl rfl rfl ?_
    refine cl_Tr_139 (pc := 100) (As := []) (st := []) rfl (ct_Tr_readGoes X q1.2) (Nat.le_trans (Nat.le_of_ble_eq_true rfl) hF0) rfl rfl (Nat.le_of_ble_eq_true rfl) dk_Tr_readItem_100 (fun q9 => ?_)
    refine rn_goto (pc := 103) 113 dk_Tr_readItem_103 (by decide) ?_
    exact rn_vret rfl dk_Tr_readItem_113
  refine rn_tdef (pc := 9) [(-1 : Int32), (0 : Int32), (1 : Int32), (2 : Int32), (3 : Int32), (4 : Int32), (5 : Int32), (6 : Int32)] 109 dk_Tr_readItem_9 (by decide) (by decide) (List.forall_mem_cons.mpr ⟨c2_0, (List.forall_mem_cons.mpr ⟨c2_1, (List.forall_mem_cons.mpr ⟨c2_2, (List.forall_mem_cons.mpr ⟨c2_3, (List.forall_mem_cons.mpr ⟨c2_4, (List.forall_mem_cons.mpr ⟨c2_5, (List.forall_mem_cons.mpr ⟨c2_6, (List.forall_mem_cons.mpr ⟨c2_7, (fun _ h => absurd h List.not_mem_nil)⟩)⟩)⟩)⟩)⟩)⟩)⟩)⟩) (by decide) ?_
  refine rn_aload_n (pc := 109) 0 dk_Tr_readItem_109 rfl rfl rfl ?_
  refine cl_Tr_142 (pc := 110) (As := []) (st := []) rfl (ct_Tr_readDies X q1.2) (Nat.le_trans (Nat.le_of_ble_eq_true rfl) hF0) rfl rfl (Nat.le_of_ble_eq_true rfl) dk_Tr_readItem_110 (fun q10 => ?_)
  exact rn_vret rfl dk_Tr_readItem_113
theorem dk_Sh_number_0 : decode mi_Sh_number.2.1 0 = .ok (.iload_n 1, 1) := by decide +kernel
theorem dk_Sh_number_1 : decode mi_Sh_number.2.1 1 = .ok (.ifCond .lt 21, 3) := by decide +kernel
theorem dk_Sh_number_4 : decode mi_Sh_number.2.1 4 = .ok (.iload_n 1, 1) := by decide +kernel
theorem dk_Sh_number_5 : decode mi_Sh_number.2.1 5 = .ok (.aload_n 0, 1) := by decide +kernel
theorem dk_Sh_number_6 : decode mi_Sh_number.2.1 6 = .ok (.getfield 22, 3) := by decide +kernel
theorem dk_Sh_number_9 : decode mi_Sh_number.2.1 9 = .ok (.if_icmp .ge 13, 3) := by decide +kernel
theorem dk_Sh_number_12 : decode mi_Sh_number.2.1 12 = .ok (.aload_n 0, 1) := by decide +kernel
theorem dk_Sh_number_13 : decode mi_Sh_number.2.1 13 = .ok (.getfield 9, 3) := by decide +kernel
theorem dk_Sh_number_16 : decode mi_Sh_number.2.1 16 = .ok (.iload_n 1, 1) := by decide +kernel
theorem dk_Sh_number_17 : decode mi_Sh_number.2.1 17 = .ok (.laload, 1) := by decide +kernel
theorem dk_Sh_number_18 : decode mi_Sh_number.2.1 18 = .ok (.l2i, 1) := by decide +kernel
theorem dk_Sh_number_19 : decode mi_Sh_number.2.1 19 = .ok (.goto 4, 3) := by decide +kernel
theorem dk_Sh_number_22 : decode mi_Sh_number.2.1 22 = .ok (.iconst 0, 1) := by decide +kernel
theorem dk_Sh_number_23 : decode mi_Sh_number.2.1 23 = .ok (.ireturn, 1) := by decide +kernel
def Sh_number (o : Nat) (p1 : Int32) (σ : nm_St) : Option (Int32 × nm_St) :=
  (if p1 < 0 then
    some ((0 : Int32), σ)
  else
    (if (σ.1 o 3) ≤ p1 then
      some ((0 : Int32), σ)
    else
      (nm_g (nm_in p1 160) (
      some ((Int64.toInt32 (σ.2 (o + 1) p1.toNatClampNeg)), σ)))))
set_option maxRecDepth 100000 in
set_option maxHeartbeats 4000000 in
theorem ct_Sh_number (X : nm_X) (o : Nat) (ho : nm_isH o = true) (p1 : Int32) (σ : nm_St) : Ct X mi_Sh_number 0 nm_wI [.ref o, .int p1] σ (Sh_number o p1 σ) := by
  refine Ct.of (by decide +kernel) rfl (fun F hF0 => ?_)
  unfold Sh_number
  refine rn_iload_n (pc := 0) 1 dk_Sh_number_0 rfl rfl ?_
  refine rn_if_lt (pc := 1) 22 dk_Sh_number_1 (by decide) (fun c1 => ?_) (fun c1 => ?_)
  · refine rn_iconst (pc := 22) (0 : Int32) dk_Sh_number_22 cn_i_0 ?_
    exact rn_iret rfl dk_Sh_number_23
  · refine rn_iload_n (pc := 4) 1 dk_Sh_number_4 rfl rfl ?_
    refine rn_aload_n (pc := 5) 0 dk_Sh_number_5 rfl rfl (nm_rok_isH ho) ?_
    refine gf_Sh_22 (pc := 6) o ho rfl dk_Sh_number_6 ?_
    refine rn_icmp_ge (pc := 9) 22 dk_Sh_number_9 (by decide) (fun c2 => ?_) (fun c2 => ?_)
    · refine rn_iconst (pc := 22) (0 : Int32) dk_Sh_number_22 cn_i_0 ?_
      exact rn_iret rfl dk_Sh_number_23
    · refine rn_aload_n (pc := 12) 0 dk_Sh_number_12 rfl rfl (nm_rok_isH ho) ?_
      refine gf_Sh_9 (pc := 13) o ho rfl dk_Sh_number_13 ?_
      refine rn_iload_n (pc := 16) 1 dk_Sh_number_16 rfl rfl ?_
      refine rn_laload (pc := 17) (nm_h1 ho) dk_Sh_number_17 (fun g3 => ?_)
      refine rn_l2i (pc := 18) dk_Sh_number_18 ?_
      refine rn_goto (pc := 19) 23 dk_Sh_number_19 (by decide) ?_
      exact rn_iret rfl dk_Sh_number_23
theorem dk_Tr_takeSigns_0 : decode mi_Tr_takeSigns.2.1 0 = .ok (.aload_n 0, 1) := by decide +kernel
theorem dk_Tr_takeSigns_1 : decode mi_Tr_takeSigns.2.1 1 = .ok (.aload_n 1, 1) := by decide +kernel
theorem dk_Tr_takeSigns_2 : decode mi_Tr_takeSigns.2.1 2 = .ok (.getfield 53, 3) := by decide +kernel
theorem dk_Tr_takeSigns_5 : decode mi_Tr_takeSigns.2.1 5 = .ok (.sipush 160, 3) := by decide +kernel
theorem dk_Tr_takeSigns_8 : decode mi_Tr_takeSigns.2.1 8 = .ok (.invokestatic 56, 3) := by decide +kernel
theorem dk_Tr_takeSigns_11 : decode mi_Tr_takeSigns.2.1 11 = .ok (.putfield 22, 3) := by decide +kernel
theorem dk_Tr_takeSigns_14 : decode mi_Tr_takeSigns.2.1 14 = .ok (.iconst 0, 1) := by decide +kernel
theorem dk_Tr_takeSigns_15 : decode mi_Tr_takeSigns.2.1 15 = .ok (.istore_n 2, 1) := by decide +kernel
theorem dk_Tr_takeSigns_16 : decode mi_Tr_takeSigns.2.1 16 = .ok (.iload_n 2, 1) := by decide +kernel
theorem dk_Tr_takeSigns_17 : decode mi_Tr_takeSigns.2.1 17 = .ok (.aload_n 0, 1) := by decide +kernel
theorem dk_Tr_takeSigns_18 : decode mi_Tr_takeSigns.2.1 18 = .ok (.getfield 22, 3) := by decide +kernel
theorem dk_Tr_takeSigns_21 : decode mi_Tr_takeSigns.2.1 21 = .ok (.if_icmp .ge 20, 3) := by decide +kernel
theorem dk_Tr_takeSigns_24 : decode mi_Tr_takeSigns.2.1 24 = .ok (.aload_n 0, 1) := by decide +kernel
theorem dk_Tr_takeSigns_25 : decode mi_Tr_takeSigns.2.1 25 = .ok (.getfield 18, 3) := by decide +kernel
theorem dk_Tr_takeSigns_28 : decode mi_Tr_takeSigns.2.1 28 = .ok (.iload_n 2, 1) := by decide +kernel
theorem dk_Tr_takeSigns_29 : decode mi_Tr_takeSigns.2.1 29 = .ok (.aload_n 1, 1) := by decide +kernel
theorem dk_Tr_takeSigns_30 : decode mi_Tr_takeSigns.2.1 30 = .ok (.iload_n 2, 1) := by decide +kernel
theorem dk_Tr_takeSigns_31 : decode mi_Tr_takeSigns.2.1 31 = .ok (.invokevirtual 62, 3) := by decide +kernel
theorem dk_Tr_takeSigns_34 : decode mi_Tr_takeSigns.2.1 34 = .ok (.iastore, 1) := by decide +kernel
theorem dk_Tr_takeSigns_35 : decode mi_Tr_takeSigns.2.1 35 = .ok (.iinc 2 1, 3) := by decide +kernel
theorem dk_Tr_takeSigns_38 : decode mi_Tr_takeSigns.2.1 38 = .ok (.goto (-22), 3) := by decide +kernel
theorem dk_Tr_takeSigns_41 : decode mi_Tr_takeSigns.2.1 41 = .ok (.return_, 1) := by decide +kernel
def Tr_takeSigns_l16 (o1 : Nat) (k_41 : nm_St → Option (Unit × nm_St)) : Nat → Int32 → nm_St → Option (Unit × nm_St)
  | 0, _, _ => none
  | n + 1, x2, σ =>
    (if (σ.1 42 2) ≤ x2 then
      k_41 σ
    else
      ((Sh_number o1 x2 σ).bind fun q4 =>
      (nm_g (nm_in x2 160) (
      (nm_let (nm_pI q4.2 50 x2.toNatClampNeg q4.1) fun s6 =>
      (Tr_takeSigns_l16 o1 k_41 n) (x2 + (1 : Int32)) s6)))))
set_option maxRecDepth 100000 in
set_option maxHeartbeats 4000000 in
theorem r_Tr_takeSigns_l16 (X : nm_X) (F : nm_F) (hF0 : 1 ≤ nm_d F) (o1 : Nat) (ho1 : nm_isH o1 = true) (k_41 : nm_St → Option (Unit × nm_St)) (hk_41 : ∀ (σ : nm_St), Rn X mi_Tr_takeSigns F (nm_Qf X F nm_wV) [] [] 41 σ (k_41 σ)) : ∀ (n : Nat) (x2 : Int32) (σ : nm_St), Rn X mi_Tr_takeSigns F (nm_Qf X F nm_wV) [(0, .ref 42), (1, .ref o1), (2, .int x2)] [] 16 σ (Tr_takeSigns_l16 o1 k_41 n x2 σ) := by
  intro n
  induction n with
  | zero =>
    intro x2 σ
    exact rn_none
  | succ n ih =>
    intro x2 σ
    unfold Tr_takeSigns_l16
    refine rn_iload_n (pc := 16) 2 dk_Tr_takeSigns_16 rfl rfl ?_
    refine rn_aload_n (pc := 17) 0 dk_Tr_takeSigns_17 rfl rfl rfl ?_
    refine gf_Tr_22 (pc := 18) rfl dk_Tr_takeSigns_18 ?_
    refine rn_icmp_ge (pc := 21) 41 dk_Tr_takeSigns_21 (by decide) (fun c3 => ?_) (fun c3 => ?_)
    · exact rn_sub (by rfl) (hk_41 σ)
    · refine rn_aload_n (pc := 24) 0 dk_Tr_takeSigns_24 rfl rfl rfl ?_
      refine gf_Tr_18 (pc := 25) rfl dk_Tr_takeSigns_25 ?_
      refine rn_iload_n (pc := 28) 2 dk_Tr_takeSigns_28 rfl rfl ?_
      refine rn_aload_n (pc := 29) 1 dk_Tr_takeSigns_29 rfl rfl (nm_rok_isH ho1) ?_
      refine rn_iload_n (pc := 30) 2 dk_Tr_takeSigns_30 rfl rfl ?_
      refine cl_Tr_62 (pc := 31) (As := [.int x2]) (st := [.int x2, .ref 50]) o1 ho1 rfl (ct_Sh_number X o1 ho1 x2 σ) (Nat.le_trans (Nat.le_of_ble_eq_true rfl) hF0) rfl rfl (Nat.le_of_ble_eq_true rfl) dk_Tr_takeSigns_31 (fun q4 => ?_)
      refine rn_iastore (pc := 34) rfl dk_Tr_takeSigns_34 (fun g5 => ?_)
      refine rn_lets (fun s6 => ?_)
      refine rn_iinc (pc := 35) (1 : Int32) dk_Tr_takeSigns_35 cn_i_1 rfl rfl rfl ?_
      refine rn_goto (pc := 38) 16 dk_Tr_takeSigns_38 (by decide) ?_
      exact rn_sub (by rfl) (ih (x2 + (1 : Int32)) s6)
def Tr_takeSigns (o1 : Nat) (σ : nm_St) : Option (Unit × nm_St) :=
  (nm_let ((if (160 : Int32) < (σ.1 o1 3) then (160 : Int32) else (σ.1 o1 3))) fun v1 =>
  (nm_let (nm_pI σ 42 2 v1) fun s2 =>
  Tr_takeSigns_l16 o1 (fun (s7 : nm_St) =>
    some ((), s7)) 400 (0 : Int32) s2))
set_option maxRecDepth 100000 in
set_option maxHeartbeats 4000000 in
theorem ct_Tr_takeSigns (X : nm_X) (o1 : Nat) (ho1 : nm_isH o1 = true) (σ : nm_St) : Ct X mi_Tr_takeSigns 1 nm_wV [.ref 42, .ref o1] σ (Tr_takeSigns o1 σ) := by
  refine Ct.of (by decide +kernel) rfl (fun F hF0 => ?_)
  unfold Tr_takeSigns
  refine rn_aload_n (pc := 0) 0 dk_Tr_takeSigns_0 rfl rfl rfl ?_
  refine rn_aload_n (pc := 1) 1 dk_Tr_takeSigns_1 rfl rfl (nm_rok_isH ho1) ?_
  refine gf_Tr_53 (pc := 2) o1 ho1 rfl dk_Tr_takeSigns_2 ?_
  refine rn_sipush (pc := 5) (160 : Int32) dk_Tr_takeSigns_5 cn_s_160 ?_
  refine rn_mmin (pc := 8) (Nat.le_trans (Nat.le_of_ble_eq_true rfl) hF0) wd_534 (Nat.le_of_ble_eq_true rfl) dk_Tr_takeSigns_8 ?_
  refine rn_leti (fun v1 => ?_)
  refine pf_Tr_22 (pc := 11) rfl dk_Tr_takeSigns_11 ?_
  refine rn_lets (fun s2 => ?_)
  refine rn_iconst (pc := 14) (0 : Int32) dk_Tr_takeSigns_14 cn_i_0 ?_
  refine rn_istore_n (pc := 15) 2 dk_Tr_takeSigns_15 rfl rfl rfl ?_
  refine rn_sub (by rfl) (r_Tr_takeSigns_l16 X F hF0 o1 ho1 _ (fun s7 => ?_) 400 (0 : Int32) s2)
  exact rn_vret rfl dk_Tr_takeSigns_41
