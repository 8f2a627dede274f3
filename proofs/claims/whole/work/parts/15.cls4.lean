theorem dk_Nm_behind_0 : decode mi_Nm_behind.2.1 0 = .ok (.aload_n 0, 1) := by decide +kernel
theorem dk_Nm_behind_1 : decode mi_Nm_behind.2.1 1 = .ok (.iload_n 1, 1) := by decide +kernel
theorem dk_Nm_behind_2 : decode mi_Nm_behind.2.1 2 = .ok (.iload_n 2, 1) := by decide +kernel
theorem dk_Nm_behind_3 : decode mi_Nm_behind.2.1 3 = .ok (.invokevirtual 292, 3) := by decide +kernel
theorem dk_Nm_behind_6 : decode mi_Nm_behind.2.1 6 = .ok (.istore 4, 2) := by decide +kernel
theorem dk_Nm_behind_8 : decode mi_Nm_behind.2.1 8 = .ok (.iload 4, 2) := by decide +kernel
theorem dk_Nm_behind_10 : decode mi_Nm_behind.2.1 10 = .ok (.ifCond .eq 10, 3) := by decide +kernel
theorem dk_Nm_behind_13 : decode mi_Nm_behind.2.1 13 = .ok (.iload 4, 2) := by decide +kernel
theorem dk_Nm_behind_15 : decode mi_Nm_behind.2.1 15 = .ok (.bipush (-6), 2) := by decide +kernel
theorem dk_Nm_behind_17 : decode mi_Nm_behind.2.1 17 = .ok (.if_icmp .ne 16, 3) := by decide +kernel
theorem dk_Nm_behind_20 : decode mi_Nm_behind.2.1 20 = .ok (.iload_n 3, 1) := by decide +kernel
theorem dk_Nm_behind_21 : decode mi_Nm_behind.2.1 21 = .ok (.iconst 0, 1) := by decide +kernel
theorem dk_Nm_behind_22 : decode mi_Nm_behind.2.1 22 = .ok (.iconst 2, 1) := by decide +kernel
theorem dk_Nm_behind_23 : decode mi_Nm_behind.2.1 23 = .ok (.invokestatic 144, 3) := by decide +kernel
theorem dk_Nm_behind_26 : decode mi_Nm_behind.2.1 26 = .ok (.ifCond .ne 7, 3) := by decide +kernel
theorem dk_Nm_behind_29 : decode mi_Nm_behind.2.1 29 = .ok (.bipush (-5), 2) := by decide +kernel
theorem dk_Nm_behind_31 : decode mi_Nm_behind.2.1 31 = .ok (.istore 4, 2) := by decide +kernel
theorem dk_Nm_behind_33 : decode mi_Nm_behind.2.1 33 = .ok (.iload 4, 2) := by decide +kernel
theorem dk_Nm_behind_35 : decode mi_Nm_behind.2.1 35 = .ok (.ifCond .ne 22, 3) := by decide +kernel
theorem dk_Nm_behind_38 : decode mi_Nm_behind.2.1 38 = .ok (.aload_n 0, 1) := by decide +kernel
theorem dk_Nm_behind_39 : decode mi_Nm_behind.2.1 39 = .ok (.aload_n 0, 1) := by decide +kernel
theorem dk_Nm_behind_40 : decode mi_Nm_behind.2.1 40 = .ok (.getfield 11, 3) := by decide +kernel
theorem dk_Nm_behind_43 : decode mi_Nm_behind.2.1 43 = .ok (.iload_n 1, 1) := by decide +kernel
theorem dk_Nm_behind_44 : decode mi_Nm_behind.2.1 44 = .ok (.aaload, 1) := by decide +kernel
theorem dk_Nm_behind_45 : decode mi_Nm_behind.2.1 45 = .ok (.iload_n 2, 1) := by decide +kernel
theorem dk_Nm_behind_46 : decode mi_Nm_behind.2.1 46 = .ok (.invokevirtual 295, 3) := by decide +kernel
theorem dk_Nm_behind_49 : decode mi_Nm_behind.2.1 49 = .ok (.iconst (-1), 1) := by decide +kernel
theorem dk_Nm_behind_50 : decode mi_Nm_behind.2.1 50 = .ok (.if_icmp .eq 7, 3) := by decide +kernel
theorem dk_Nm_behind_53 : decode mi_Nm_behind.2.1 53 = .ok (.bipush (-6), 2) := by decide +kernel
theorem dk_Nm_behind_55 : decode mi_Nm_behind.2.1 55 = .ok (.istore 4, 2) := by decide +kernel
theorem dk_Nm_behind_57 : decode mi_Nm_behind.2.1 57 = .ok (.iload 4, 2) := by decide +kernel
theorem dk_Nm_behind_59 : decode mi_Nm_behind.2.1 59 = .ok (.ifCond .eq 10, 3) := by decide +kernel
theorem dk_Nm_behind_62 : decode mi_Nm_behind.2.1 62 = .ok (.aload_n 0, 1) := by decide +kernel
theorem dk_Nm_behind_63 : decode mi_Nm_behind.2.1 63 = .ok (.iload 4, 2) := by decide +kernel
theorem dk_Nm_behind_65 : decode mi_Nm_behind.2.1 65 = .ok (.invokevirtual 73, 3) := by decide +kernel
theorem dk_Nm_behind_68 : decode mi_Nm_behind.2.1 68 = .ok (.ireturn, 1) := by decide +kernel
theorem dk_Nm_behind_69 : decode mi_Nm_behind.2.1 69 = .ok (.iload_n 3, 1) := by decide +kernel
theorem dk_Nm_behind_70 : decode mi_Nm_behind.2.1 70 = .ok (.ifCond .ne 19, 3) := by decide +kernel
theorem dk_Nm_behind_73 : decode mi_Nm_behind.2.1 73 = .ok (.aload_n 0, 1) := by decide +kernel
theorem dk_Nm_behind_74 : decode mi_Nm_behind.2.1 74 = .ok (.getfield 25, 3) := by decide +kernel
theorem dk_Nm_behind_77 : decode mi_Nm_behind.2.1 77 = .ok (.invokevirtual 190, 3) := by decide +kernel
theorem dk_Nm_behind_80 : decode mi_Nm_behind.2.1 80 = .ok (.ifCond .eq 7, 3) := by decide +kernel
theorem dk_Nm_behind_83 : decode mi_Nm_behind.2.1 83 = .ok (.iconst 1, 1) := by decide +kernel
theorem dk_Nm_behind_84 : decode mi_Nm_behind.2.1 84 = .ok (.goto 4, 3) := by decide +kernel
theorem dk_Nm_behind_87 : decode mi_Nm_behind.2.1 87 = .ok (.iconst 0, 1) := by decide +kernel
theorem dk_Nm_behind_88 : decode mi_Nm_behind.2.1 88 = .ok (.ireturn, 1) := by decide +kernel
theorem dk_Nm_behind_89 : decode mi_Nm_behind.2.1 89 = .ok (.iload_n 3, 1) := by decide +kernel
theorem dk_Nm_behind_90 : decode mi_Nm_behind.2.1 90 = .ok (.iconst 1, 1) := by decide +kernel
theorem dk_Nm_behind_91 : decode mi_Nm_behind.2.1 91 = .ok (.if_icmp .ne 13, 3) := by decide +kernel
theorem dk_Nm_behind_94 : decode mi_Nm_behind.2.1 94 = .ok (.aload_n 0, 1) := by decide +kernel
theorem dk_Nm_behind_95 : decode mi_Nm_behind.2.1 95 = .ok (.getfield 25, 3) := by decide +kernel
theorem dk_Nm_behind_98 : decode mi_Nm_behind.2.1 98 = .ok (.getfield 171, 3) := by decide +kernel
theorem dk_Nm_behind_101 : decode mi_Nm_behind.2.1 101 = .ok (.goto 10, 3) := by decide +kernel
theorem dk_Nm_behind_104 : decode mi_Nm_behind.2.1 104 = .ok (.aload_n 0, 1) := by decide +kernel
theorem dk_Nm_behind_105 : decode mi_Nm_behind.2.1 105 = .ok (.getfield 25, 3) := by decide +kernel
theorem dk_Nm_behind_108 : decode mi_Nm_behind.2.1 108 = .ok (.getfield 168, 3) := by decide +kernel
theorem dk_Nm_behind_111 : decode mi_Nm_behind.2.1 111 = .ok (.ireturn, 1) := by decide +kernel
def Nm_behind_j57 (x3 : Int32) (x4 : Int32) (σ : nm_St) : Option (Int32 × nm_St) :=
  (if x4 = 0 then
    (if x3 = 0 then
      ((Is_isMadeAbroad 16 σ).bind fun q9 =>
      (if q9.1 = 0 then
        some ((0 : Int32), q9.2)
      else
        some ((1 : Int32), q9.2)))
    else
      (if x3 = (1 : Int32) then
        some ((σ.1 16 9), σ)
      else
        some ((σ.1 16 8), σ)))
  else
    ((Nm_refuse x4 σ).bind fun q11 =>
    some (q11.1, q11.2)))
set_option maxRecDepth 100000 in
set_option maxHeartbeats 4000000 in
theorem r_Nm_behind_j57 (X : nm_X) (F : nm_F) (hF0 : 6 ≤ nm_d F) (x3 : Int32) (x4 : Int32) (σ : nm_St) : Rn X mi_Nm_behind F (nm_Qf X F nm_wI) [(0, .ref 0), (3, .int x3), (4, .int x4)] [] 57 σ (Nm_behind_j57 x3 x4 σ) := by
  unfold Nm_behind_j57
  refine rn_iload (pc := 57) dk_Nm_behind_57 rfl ?_
  refine rn_if_eq (pc := 59) 69 dk_Nm_behind_59 (by decide) (fun c6 => ?_) (fun c6 => ?_)
  · refine rn_iload_n (pc := 69) 3 dk_Nm_behind_69 rfl rfl ?_
    refine rn_if_ne (pc := 70) 89 dk_Nm_behind_70 (by decide) (fun c7 => ?_) (fun c7 => ?_)
    · refine rn_iload_n (pc := 89) 3 dk_Nm_behind_89 rfl rfl ?_
      refine rn_iconst (pc := 90) (1 : Int32) dk_Nm_behind_90 cn_i_1 ?_
      refine rn_icmp_ne (pc := 91) 104 dk_Nm_behind_91 (by decide) (fun c8 => ?_) (fun c8 => ?_)
      · refine rn_aload_n (pc := 104) 0 dk_Nm_behind_104 rfl rfl rfl ?_
        refine gf_Nm_25 (pc := 105) rfl dk_Nm_behind_105 ?_
        refine gf_Nm_168 (pc := 108) 16 rfl rfl dk_Nm_behind_108 ?_
        exact rn_iret rfl dk_Nm_behind_111
      · refine rn_aload_n (pc := 94) 0 dk_Nm_behind_94 rfl rfl rfl ?_
        refine gf_Nm_25 (pc := 95) rfl dk_Nm_behind_95 ?_
        refine gf_Nm_171 (pc := 98) 16 rfl rfl dk_Nm_behind_98 ?_
        refine rn_goto (pc := 101) 111 dk_Nm_behind_101 (by decide) ?_
        exact rn_iret rfl dk_Nm_behind_111
    · refine rn_aload_n (pc := 73) 0 dk_Nm_behind_73 rfl rfl rfl ?_
      refine gf_Nm_25 (pc := 74) rfl dk_Nm_behind_74 ?_
      refine cl_Nm_190 (pc := 77) (As := []) (st := []) 16 rfl rfl (ct_Is_isMadeAbroad X 16 rfl σ) (Nat.le_trans (Nat.le_of_ble_eq_true rfl) hF0) rfl rfl (Nat.le_of_ble_eq_true rfl) dk_Nm_behind_77 (fun q9 => ?_)
      refine rn_if_eq (pc := 80) 87 dk_Nm_behind_80 (by decide) (fun c10 => ?_) (fun c10 => ?_)
      · refine rn_iconst (pc := 87) (0 : Int32) dk_Nm_behind_87 cn_i_0 ?_
        exact rn_iret rfl dk_Nm_behind_88
      · refine rn_iconst (pc := 83) (1 : Int32) dk_Nm_behind_83 cn_i_1 ?_
        refine rn_goto (pc := 84) 88 dk_Nm_behind_84 (by decide) ?_
        exact rn_iret rfl dk_Nm_behind_88
  · refine rn_aload_n (pc := 62) 0 dk_Nm_behind_62 rfl rfl rfl ?_
    refine rn_iload (pc := 63) dk_Nm_behind_63 rfl ?_
    refine cl_Nm_73 (pc := 65) (As := [.int x4]) (st := []) rfl (ct_Nm_refuse X x4 σ) (Nat.le_trans (Nat.le_of_ble_eq_true rfl) hF0) rfl rfl (Nat.le_of_ble_eq_true rfl) dk_Nm_behind_65 (fun q11 => ?_)
    exact rn_iret rfl dk_Nm_behind_68
def Nm_behind_j33 (x1 : Int32) (x2 : Int32) (x3 : Int32) (x4 : Int32) (σ : nm_St) : Option (Int32 × nm_St) :=
  (if x4 = 0 then
    (nm_g (nm_in x1 8) (
    ((Nm_tryMonths (nm_sf x1) x2 σ).bind fun q13 =>
    (if q13.1 = (-1 : Int32) then
      Nm_behind_j57 x3 x4 q13.2
    else
      Nm_behind_j57 x3 (-6 : Int32) q13.2))))
  else
    Nm_behind_j57 x3 x4 σ)
set_option maxRecDepth 100000 in
set_option maxHeartbeats 4000000 in
theorem r_Nm_behind_j33 (X : nm_X) (F : nm_F) (hF0 : 6 ≤ nm_d F) (x1 : Int32) (x2 : Int32) (x3 : Int32) (x4 : Int32) (σ : nm_St) : Rn X mi_Nm_behind F (nm_Qf X F nm_wI) [(0, .ref 0), (1, .int x1), (2, .int x2), (3, .int x3), (4, .int x4)] [] 33 σ (Nm_behind_j33 x1 x2 x3 x4 σ) := by
  unfold Nm_behind_j33
  refine rn_iload (pc := 33) dk_Nm_behind_33 rfl ?_
  refine rn_if_ne (pc := 35) 57 dk_Nm_behind_35 (by decide) (fun c5 => ?_) (fun c5 => ?_)
  · exact rn_sub (by rfl) (r_Nm_behind_j57 X F hF0 x3 x4 σ)
  · refine rn_aload_n (pc := 38) 0 dk_Nm_behind_38 rfl rfl rfl ?_
    refine rn_aload_n (pc := 39) 0 dk_Nm_behind_39 rfl rfl rfl ?_
    refine gf_Nm_11 (pc := 40) rfl dk_Nm_behind_40 ?_
    refine rn_iload_n (pc := 43) 1 dk_Nm_behind_43 rfl rfl ?_
    refine rn_aaload (pc := 44) dk_Nm_behind_44 (fun g12 => ?_)
    refine rn_iload_n (pc := 45) 2 dk_Nm_behind_45 rfl rfl ?_
    refine cl_Nm_295 (pc := 46) (As := [.ref (nm_sf x1), .int x2]) (st := []) rfl (ct_Nm_tryMonths X (nm_sf x1) (nm_sf_isH g12) x2 σ) (Nat.le_trans (Nat.le_of_ble_eq_true rfl) hF0) rfl rfl (Nat.le_of_ble_eq_true rfl) dk_Nm_behind_46 (fun q13 => ?_)
    refine rn_iconst (pc := 49) (-1 : Int32) dk_Nm_behind_49 cn_i_m1 ?_
    refine rn_icmp_eq (pc := 50) 57 dk_Nm_behind_50 (by decide) (fun c14 => ?_) (fun c14 => ?_)
    · exact rn_sub (by rfl) (r_Nm_behind_j57 X F hF0 x3 x4 q13.2)
    · refine rn_bipush (pc := 53) (-6 : Int32) dk_Nm_behind_53 cn_b_m6 ?_
      refine rn_istore (pc := 55) dk_Nm_behind_55 rfl rfl ?_
      exact rn_sub (by rfl) (r_Nm_behind_j57 X F hF0 x3 (-6 : Int32) q13.2)
def Nm_behind_j20 (x1 : Int32) (x2 : Int32) (x3 : Int32) (x4 : Int32) (σ : nm_St) : Option (Int32 × nm_St) :=
  ((Nm_isWithin x3 (0 : Int32) (2 : Int32) σ).bind fun q3 =>
  (if q3.1 = 0 then
    Nm_behind_j33 x1 x2 x3 (-5 : Int32) q3.2
  else
    Nm_behind_j33 x1 x2 x3 x4 q3.2))
set_option maxRecDepth 100000 in
set_option maxHeartbeats 4000000 in
theorem r_Nm_behind_j20 (X : nm_X) (F : nm_F) (hF0 : 6 ≤ nm_d F) (x1 : Int32) (x2 : Int32) (x3 : Int32) (x4 : Int32) (σ : nm_St) : Rn X mi_Nm_behind F (nm_Qf X F nm_wI) [(0, .ref 0), (1, .int x1), (2, .int x2), (3, .int x3), (4, .int x4)] [] 20 σ (Nm_behind_j20 x1 x2 x3 x4 σ) := by
  unfold Nm_behind_j20
  refine rn_iload_n (pc := 20) 3 dk_Nm_behind_20 rfl rfl ?_
  refine rn_iconst (pc := 21) (0 : Int32) dk_Nm_behind_21 cn_i_0 ?_
  refine rn_iconst (pc := 22) (2 : Int32) dk_Nm_behind_22 cn_i_2 ?_
  refine cl_Nm_144 (pc := 23) (As := [.int x3, .int (0 : Int32), .int (2 : Int32)]) (st := []) rfl (ct_Nm_isWithin X x3 (0 : Int32) (2 : Int32) σ) (Nat.le_trans (Nat.le_of_ble_eq_true rfl) hF0) rfl rfl (Nat.le_of_ble_eq_true rfl) dk_Nm_behind_23 (fun q3 => ?_)
  refine rn_if_ne (pc := 26) 33 dk_Nm_behind_26 (by decide) (fun c4 => ?_) (fun c4 => ?_)
  · exact rn_sub (by rfl) (r_Nm_behind_j33 X F hF0 x1 x2 x3 x4 q3.2)
  · refine rn_bipush (pc := 29) (-5 : Int32) dk_Nm_behind_29 cn_b_m5 ?_
    refine rn_istore (pc := 31) dk_Nm_behind_31 rfl rfl ?_
    exact rn_sub (by rfl) (r_Nm_behind_j33 X F hF0 x1 x2 x3 (-5 : Int32) q3.2)
def Nm_behind (p1 : Int32) (p2 : Int32) (p3 : Int32) (σ : nm_St) : Option (Int32 × nm_St) :=
  ((Nm_checkTold p1 p2 σ).bind fun q1 =>
  (if q1.1 = 0 then
    Nm_behind_j20 p1 p2 p3 q1.1 q1.2
  else
    (if q1.1 = (-6 : Int32) then
      Nm_behind_j20 p1 p2 p3 q1.1 q1.2
    else
      Nm_behind_j33 p1 p2 p3 q1.1 q1.2)))
set_option maxRecDepth 100000 in
set_option maxHeartbeats 4000000 in
theorem ct_Nm_behind (X : nm_X) (p1 : Int32) (p2 : Int32) (p3 : Int32) (σ : nm_St) : Ct X mi_Nm_behind 6 nm_wI [.ref 0, .int p1, .int p2, .int p3] σ (Nm_behind p1 p2 p3 σ) := by
  refine Ct.of (by decide +kernel) rfl (fun F hF0 => ?_)
  unfold Nm_behind
  refine rn_aload_n (pc := 0) 0 dk_Nm_behind_0 rfl rfl rfl ?_
  refine rn_iload_n (pc := 1) 1 dk_Nm_behind_1 rfl rfl ?_
  refine rn_iload_n (pc := 2) 2 dk_Nm_behind_2 rfl rfl ?_
  refine cl_Nm_292 (pc := 3) (As := [.int p1, .int p2]) (st := []) rfl (ct_Nm_checkTold X p1 p2 σ) (Nat.le_trans (Nat.le_of_ble_eq_true rfl) hF0) rfl rfl (Nat.le_of_ble_eq_true rfl) dk_Nm_behind_3 (fun q1 => ?_)
  refine rn_istore (pc := 6) dk_Nm_behind_6 rfl rfl ?_
  refine rn_iload (pc := 8) dk_Nm_behind_8 rfl ?_
  refine rn_if_eq (pc := 10) 20 dk_Nm_behind_10 (by decide) (fun c2 => ?_) (fun c2 => ?_)
  · exact rn_sub (by rfl) (r_Nm_behind_j20 X F hF0 p1 p2 p3 q1.1 q1.2)
  · refine rn_iload (pc := 13) dk_Nm_behind_13 rfl ?_
    refine rn_bipush (pc := 15) (-6 : Int32) dk_Nm_behind_15 cn_b_m6 ?_
    refine rn_icmp_ne (pc := 17) 33 dk_Nm_behind_17 (by decide) (fun c15 => ?_) (fun c15 => ?_)
    · exact rn_sub (by rfl) (r_Nm_behind_j33 X F hF0 p1 p2 p3 q1.1 q1.2)
    · exact rn_sub (by rfl) (r_Nm_behind_j20 X F hF0 p1 p2 p3 q1.1 q1.2)
theorem dk_Nm_done_0 : decode mi_Nm_done.2.1 0 = .ok (.aload_n 0, 1) := by decide +kernel
theorem dk_Nm_done_1 : decode mi_Nm_done.2.1 1 = .ok (.iload_n 1, 1) := by decide +kernel
theorem dk_Nm_done_2 : decode mi_Nm_done.2.1 2 = .ok (.iload_n 2, 1) := by decide +kernel
theorem dk_Nm_done_3 : decode mi_Nm_done.2.1 3 = .ok (.invokevirtual 292, 3) := by decide +kernel
theorem dk_Nm_done_6 : decode mi_Nm_done.2.1 6 = .ok (.istore_n 3, 1) := by decide +kernel
theorem dk_Nm_done_7 : decode mi_Nm_done.2.1 7 = .ok (.iload_n 3, 1) := by decide +kernel
theorem dk_Nm_done_8 : decode mi_Nm_done.2.1 8 = .ok (.ifCond .ne 21, 3) := by decide +kernel
theorem dk_Nm_done_11 : decode mi_Nm_done.2.1 11 = .ok (.aload_n 0, 1) := by decide +kernel
theorem dk_Nm_done_12 : decode mi_Nm_done.2.1 12 = .ok (.aload_n 0, 1) := by decide +kernel
theorem dk_Nm_done_13 : decode mi_Nm_done.2.1 13 = .ok (.getfield 11, 3) := by decide +kernel
theorem dk_Nm_done_16 : decode mi_Nm_done.2.1 16 = .ok (.iload_n 1, 1) := by decide +kernel
theorem dk_Nm_done_17 : decode mi_Nm_done.2.1 17 = .ok (.aaload, 1) := by decide +kernel
theorem dk_Nm_done_18 : decode mi_Nm_done.2.1 18 = .ok (.iload_n 2, 1) := by decide +kernel
theorem dk_Nm_done_19 : decode mi_Nm_done.2.1 19 = .ok (.invokevirtual 295, 3) := by decide +kernel
theorem dk_Nm_done_22 : decode mi_Nm_done.2.1 22 = .ok (.iconst (-1), 1) := by decide +kernel
theorem dk_Nm_done_23 : decode mi_Nm_done.2.1 23 = .ok (.if_icmp .eq 6, 3) := by decide +kernel
theorem dk_Nm_done_26 : decode mi_Nm_done.2.1 26 = .ok (.bipush (-6), 2) := by decide +kernel
theorem dk_Nm_done_28 : decode mi_Nm_done.2.1 28 = .ok (.istore_n 3, 1) := by decide +kernel
theorem dk_Nm_done_29 : decode mi_Nm_done.2.1 29 = .ok (.iload_n 3, 1) := by decide +kernel
theorem dk_Nm_done_30 : decode mi_Nm_done.2.1 30 = .ok (.ifCond .eq 9, 3) := by decide +kernel
theorem dk_Nm_done_33 : decode mi_Nm_done.2.1 33 = .ok (.aload_n 0, 1) := by decide +kernel
theorem dk_Nm_done_34 : decode mi_Nm_done.2.1 34 = .ok (.iload_n 3, 1) := by decide +kernel
theorem dk_Nm_done_35 : decode mi_Nm_done.2.1 35 = .ok (.invokevirtual 73, 3) := by decide +kernel
theorem dk_Nm_done_38 : decode mi_Nm_done.2.1 38 = .ok (.ireturn, 1) := by decide +kernel
theorem dk_Nm_done_39 : decode mi_Nm_done.2.1 39 = .ok (.aload_n 0, 1) := by decide +kernel
theorem dk_Nm_done_40 : decode mi_Nm_done.2.1 40 = .ok (.getfield 18, 3) := by decide +kernel
theorem dk_Nm_done_43 : decode mi_Nm_done.2.1 43 = .ok (.aload_n 0, 1) := by decide +kernel
theorem dk_Nm_done_44 : decode mi_Nm_done.2.1 44 = .ok (.getfield 25, 3) := by decide +kernel
theorem dk_Nm_done_47 : decode mi_Nm_done.2.1 47 = .ok (.invokevirtual 183, 3) := by decide +kernel
theorem dk_Nm_done_50 : decode mi_Nm_done.2.1 50 = .ok (.aload_n 0, 1) := by decide +kernel
theorem dk_Nm_done_51 : decode mi_Nm_done.2.1 51 = .ok (.getfield 18, 3) := by decide +kernel
theorem dk_Nm_done_54 : decode mi_Nm_done.2.1 54 = .ok (.getfield 298, 3) := by decide +kernel
theorem dk_Nm_done_57 : decode mi_Nm_done.2.1 57 = .ok (.ireturn, 1) := by decide +kernel
def Nm_done_j29 (x3 : Int32) (σ : nm_St) : Option (Int32 × nm_St) :=
  (if x3 = 0 then
    ((Is_become 2 16 σ).bind fun q4 =>
    some ((q4.2.1 2 10), q4.2))
  else
    ((Nm_refuse x3 σ).bind fun q5 =>
    some (q5.1, q5.2)))
set_option maxRecDepth 100000 in
set_option maxHeartbeats 4000000 in
theorem r_Nm_done_j29 (X : nm_X) (F : nm_F) (hF0 : 6 ≤ nm_d F) (x3 : Int32) (σ : nm_St) : Rn X mi_Nm_done F (nm_Qf X F nm_wI) [(0, .ref 0), (3, .int x3)] [] 29 σ (Nm_done_j29 x3 σ) := by
  unfold Nm_done_j29
  refine rn_iload_n (pc := 29) 3 dk_Nm_done_29 rfl rfl ?_
  refine rn_if_eq (pc := 30) 39 dk_Nm_done_30 (by decide) (fun c3 => ?_) (fun c3 => ?_)
  · refine rn_aload_n (pc := 39) 0 dk_Nm_done_39 rfl rfl rfl ?_
    refine gf_Nm_18 (pc := 40) rfl dk_Nm_done_40 ?_
    refine rn_aload_n (pc := 43) 0 dk_Nm_done_43 rfl rfl rfl ?_
    refine gf_Nm_25 (pc := 44) rfl dk_Nm_done_44 ?_
    refine cl_Nm_183 (pc := 47) (As := [.ref 16]) (st := []) 2 rfl rfl (ct_Is_become X 2 rfl 16 rfl σ) (Nat.le_trans (Nat.le_of_ble_eq_true rfl) hF0) rfl rfl (Nat.le_of_ble_eq_true rfl) dk_Nm_done_47 (fun q4 => ?_)
    refine rn_aload_n (pc := 50) 0 dk_Nm_done_50 rfl rfl rfl ?_
    refine gf_Nm_18 (pc := 51) rfl dk_Nm_done_51 ?_
    refine gf_Nm_298 (pc := 54) 2 rfl rfl dk_Nm_done_54 ?_
    exact rn_iret rfl dk_Nm_done_57
  · refine rn_aload_n (pc := 33) 0 dk_Nm_done_33 rfl rfl rfl ?_
    refine rn_iload_n (pc := 34) 3 dk_Nm_done_34 rfl rfl ?_
    refine cl_Nm_73 (pc := 35) (As := [.int x3]) (st := []) rfl (ct_Nm_refuse X x3 σ) (Nat.le_trans (Nat.le_of_ble_eq_true rfl) hF0) rfl rfl (Nat.le_of_ble_eq_true rfl) dk_Nm_done_35 (fun q5 => ?_)
    exact rn_iret rfl dk_Nm_done_38
def Nm_done (p1 : Int32) (p2 : Int32) (σ : nm_St) : Option (Int32 × nm_St) :=
  ((Nm_checkTold p1 p2 σ).bind fun q1 =>
  (if q1.1 = 0 then
    (nm_g (nm_in p1 8) (
    ((Nm_tryMonths (nm_sf p1) p2 q1.2).bind fun q7 =>
    (if q7.1 = (-1 : Int32) then
      Nm_done_j29 q1.1 q7.2
    else
      Nm_done_j29 (-6 : Int32) q7.2))))
  else
    Nm_done_j29 q1.1 q1.2))
set_option maxRecDepth 100000 in
set_option maxHeartbeats 4000000 in
theorem ct_Nm_done (X : nm_X) (p1 : Int32) (p2 : Int32) (σ : nm_St) : Ct X mi_Nm_done 6 nm_wI [.ref 0, .int p1, .int p2] σ (Nm_done p1 p2 σ) := by
  refine Ct.of (by decide +kernel) rfl (fun F hF0 => ?_)
  unfold Nm_done
  refine rn_aload_n (pc := 0) 0 dk_Nm_done_0 rfl rfl rfl ?_
  refine rn_iload_n (pc := 1) 1 dk_Nm_done_1 rfl rfl ?_
  refine rn_iload_n (pc := 2) 2 dk_Nm_done_2 rfl rfl ?_
  refine cl_Nm_292 (pc := 3) (As := [.int p1, .int p2]) (st := []) rfl (ct_Nm_checkTold X p1 p2 σ) (Nat.le_trans (Nat.le_of_ble_eq_true rfl) hF0) rfl rfl (Nat.le_of_ble_eq_true rfl) dk_Nm_done_3 (fun q1 => ?_)
  refine rn_istore_n (pc := 6) 3 dk_Nm_done_6 rfl rfl rfl ?_
  refine rn_iload_n (pc := 7) 3 dk_Nm_done_7 rfl rfl ?_
  refine rn_if_ne (pc := 8) 29 dk_Nm_done_8 (by decide) (fun c2 => ?_) (fun c2 => ?_)
  · exact rn_sub (by rfl) (r_Nm_done_j29 X F hF0 q1.1 q1.2)
  · refine rn_aload_n (pc := 11) 0 dk_Nm_done_11 rfl rfl rfl ?_
    refine rn_aload_n (pc := 12) 0 dk_Nm_done_12 rfl rfl rfl ?_
    refine gf_Nm_11 (pc := 13) rfl dk_Nm_done_13 ?_
    refine rn_iload_n (pc := 16) 1 dk_Nm_done_16 rfl rfl ?_
    refine rn_aaload (pc := 17) dk_Nm_done_17 (fun g6 => ?_)
    refine rn_iload_n (pc := 18) 2 dk_Nm_done_18 rfl rfl ?_
    refine cl_Nm_295 (pc := 19) (As := [.ref (nm_sf p1), .int p2]) (st := []) rfl (ct_Nm_tryMonths X (nm_sf p1) (nm_sf_isH g6) p2 q1.2) (Nat.le_trans (Nat.le_of_ble_eq_true rfl) hF0) rfl rfl (Nat.le_of_ble_eq_true rfl) dk_Nm_done_19 (fun q7 => ?_)
    refine rn_iconst (pc := 22) (-1 : Int32) dk_Nm_done_22 cn_i_m1 ?_
    refine rn_icmp_eq (pc := 23) 29 dk_Nm_done_23 (by decide) (fun c8 => ?_) (fun c8 => ?_)
    · exact rn_sub (by rfl) (r_Nm_done_j29 X F hF0 q1.1 q7.2)
    · refine rn_bipush (pc := 26) (-6 : Int32) dk_Nm_done_26 cn_b_m6 ?_
      refine rn_istore_n (pc := 28) 3 dk_Nm_done_28 rfl rfl rfl ?_
      exact rn_sub (by rfl) (r_Nm_done_j29 X F hF0 (-6 : Int32) q7.2)
theorem dk_Nm_bid_0 : decode mi_Nm_bid.2.1 0 = .ok (.aload_n 0, 1) := by decide +kernel
theorem dk_Nm_bid_1 : decode mi_Nm_bid.2.1 1 = .ok (.getfield 18, 3) := by decide +kernel
theorem dk_Nm_bid_4 : decode mi_Nm_bid.2.1 4 = .ok (.iload_n 1, 1) := by decide +kernel
theorem dk_Nm_bid_5 : decode mi_Nm_bid.2.1 5 = .ok (.invokevirtual 107, 3) := by decide +kernel
theorem dk_Nm_bid_8 : decode mi_Nm_bid.2.1 8 = .ok (.ifCond .ne 9, 3) := by decide +kernel
theorem dk_Nm_bid_11 : decode mi_Nm_bid.2.1 11 = .ok (.aload_n 0, 1) := by decide +kernel
theorem dk_Nm_bid_12 : decode mi_Nm_bid.2.1 12 = .ok (.iconst (-1), 1) := by decide +kernel
theorem dk_Nm_bid_13 : decode mi_Nm_bid.2.1 13 = .ok (.invokevirtual 73, 3) := by decide +kernel
theorem dk_Nm_bid_16 : decode mi_Nm_bid.2.1 16 = .ok (.ireturn, 1) := by decide +kernel
theorem dk_Nm_bid_17 : decode mi_Nm_bid.2.1 17 = .ok (.aload_n 0, 1) := by decide +kernel
theorem dk_Nm_bid_18 : decode mi_Nm_bid.2.1 18 = .ok (.getfield 18, 3) := by decide +kernel
theorem dk_Nm_bid_21 : decode mi_Nm_bid.2.1 21 = .ok (.iload_n 1, 1) := by decide +kernel
theorem dk_Nm_bid_22 : decode mi_Nm_bid.2.1 22 = .ok (.iload_n 2, 1) := by decide +kernel
theorem dk_Nm_bid_23 : decode mi_Nm_bid.2.1 23 = .ok (.invokevirtual 301, 3) := by decide +kernel
theorem dk_Nm_bid_26 : decode mi_Nm_bid.2.1 26 = .ok (.ifCond .ne 10, 3) := by decide +kernel
theorem dk_Nm_bid_29 : decode mi_Nm_bid.2.1 29 = .ok (.aload_n 0, 1) := by decide +kernel
theorem dk_Nm_bid_30 : decode mi_Nm_bid.2.1 30 = .ok (.bipush (-6), 2) := by decide +kernel
theorem dk_Nm_bid_32 : decode mi_Nm_bid.2.1 32 = .ok (.invokevirtual 73, 3) := by decide +kernel
theorem dk_Nm_bid_35 : decode mi_Nm_bid.2.1 35 = .ok (.ireturn, 1) := by decide +kernel
theorem dk_Nm_bid_36 : decode mi_Nm_bid.2.1 36 = .ok (.aload_n 0, 1) := by decide +kernel
theorem dk_Nm_bid_37 : decode mi_Nm_bid.2.1 37 = .ok (.getfield 18, 3) := by decide +kernel
theorem dk_Nm_bid_40 : decode mi_Nm_bid.2.1 40 = .ok (.iload_n 1, 1) := by decide +kernel
theorem dk_Nm_bid_41 : decode mi_Nm_bid.2.1 41 = .ok (.iload_n 2, 1) := by decide +kernel
theorem dk_Nm_bid_42 : decode mi_Nm_bid.2.1 42 = .ok (.invokevirtual 304, 3) := by decide +kernel
theorem dk_Nm_bid_45 : decode mi_Nm_bid.2.1 45 = .ok (.ifCond .eq 7, 3) := by decide +kernel
theorem dk_Nm_bid_48 : decode mi_Nm_bid.2.1 48 = .ok (.iconst 1, 1) := by decide +kernel
theorem dk_Nm_bid_49 : decode mi_Nm_bid.2.1 49 = .ok (.goto 4, 3) := by decide +kernel
theorem dk_Nm_bid_52 : decode mi_Nm_bid.2.1 52 = .ok (.iconst 0, 1) := by decide +kernel
theorem dk_Nm_bid_53 : decode mi_Nm_bid.2.1 53 = .ok (.ireturn, 1) := by decide +kernel
def Nm_bid (p1 : Int32) (p2 : Int32) (σ : nm_St) : Option (Int32 × nm_St) :=
  ((Is_isMaker 2 p1 σ).bind fun q1 =>
  (if q1.1 = 0 then
    ((Nm_refuse (-1 : Int32) q1.2).bind fun q8 =>
    some (q8.1, q8.2))
  else
    ((Is_canBeBid 2 p1 p2 q1.2).bind fun q3 =>
    (if q3.1 = 0 then
      ((Nm_refuse (-6 : Int32) q3.2).bind fun q7 =>
      some (q7.1, q7.2))
    else
      ((Is_takeBid 2 p1 p2 q3.2).bind fun q5 =>
      (if q5.1 = 0 then
        some ((0 : Int32), q5.2)
      else
        some ((1 : Int32), q5.2)))))))
set_option maxRecDepth 100000 in
set_option maxHeartbeats 4000000 in
theorem ct_Nm_bid (X : nm_X) (p1 : Int32) (p2 : Int32) (σ : nm_St) : Ct X mi_Nm_bid 4 nm_wI [.ref 0, .int p1, .int p2] σ (Nm_bid p1 p2 σ) := by
  refine Ct.of (by decide +kernel) rfl (fun F hF0 => ?_)
  unfold Nm_bid
  refine rn_aload_n (pc := 0) 0 dk_Nm_bid_0 rfl rfl rfl ?_
  refine gf_Nm_18 (pc := 1) rfl dk_Nm_bid_1 ?_
  refine rn_iload_n (pc := 4) 1 dk_Nm_bid_4 rfl rfl ?_
  refine cl_Nm_107 (pc := 5) (As := [.int p1]) (st := []) 2 rfl rfl (ct_Is_isMaker X 2 rfl p1 σ) (Nat.le_trans (Nat.le_of_ble_eq_true rfl) hF0) rfl rfl (Nat.le_of_ble_eq_true rfl) dk_Nm_bid_5 (fun q1 => ?_)
  refine rn_if_ne (pc := 8) 17 dk_Nm_bid_8 (by decide) (fun c2 => ?_) (fun c2 => ?_)
  · refine rn_aload_n (pc := 17) 0 dk_Nm_bid_17 rfl rfl rfl ?_
    refine gf_Nm_18 (pc := 18) rfl dk_Nm_bid_18 ?_
    refine rn_iload_n (pc := 21) 1 dk_Nm_bid_21 rfl rfl ?_
    refine rn_iload_n (pc := 22) 2 dk_Nm_bid_22 rfl rfl ?_
    refine cl_Nm_301 (pc := 23) (As := [.int p1, .int p2]) (st := []) 2 rfl rfl (ct_Is_canBeBid X 2 rfl p1 p2 q1.2) (Nat.le_trans (Nat.le_of_ble_eq_true rfl) hF0) rfl rfl (Nat.le_of_ble_eq_true rfl) dk_Nm_bid_23 (fun q3 => ?_)
    refine rn_if_ne (pc := 26) 36 dk_Nm_bid_26 (by decide) (fun c4 => ?_) (fun c4 => ?_)
    · refine rn_aload_n (pc := 36) 0 dk_Nm_bid_36 rfl rfl rfl ?_
      refine gf_Nm_18 (pc := 37) rfl dk_Nm_bid_37 ?_
      refine rn_iload_n (pc := 40) 1 dk_Nm_bid_40 rfl rfl ?_
      refine rn_iload_n (pc := 41) 2 dk_Nm_bid_41 rfl rfl ?_
      refine cl_Nm_304 (pc := 42) (As := [.int p1, .int p2]) (st := []) 2 rfl rfl (ct_Is_takeBid X 2 rfl p1 p2 q3.2) (Nat.le_trans (Nat.le_of_ble_eq_true rfl) hF0) rfl rfl (Nat.le_of_ble_eq_true rfl) dk_Nm_bid_42 (fun q5 => ?_)
      refine rn_if_eq (pc := 45) 52 dk_Nm_bid_45 (by decide) (fun c6 => ?_) (fun c6 => ?_)
      · refine rn_iconst (pc := 52) (0 : Int32) dk_Nm_bid_52 cn_i_0 ?_
        exact rn_iret rfl dk_Nm_bid_53
      · refine rn_iconst (pc := 48) (1 : Int32) dk_Nm_bid_48 cn_i_1 ?_
        refine rn_goto (pc := 49) 53 dk_Nm_bid_49 (by decide) ?_
        exact rn_iret rfl dk_Nm_bid_53
    · refine rn_aload_n (pc := 29) 0 dk_Nm_bid_29 rfl rfl rfl ?_
      refine rn_bipush (pc := 30) (-6 : Int32) dk_Nm_bid_30 cn_b_m6 ?_
      refine cl_Nm_73 (pc := 32) (As := [.int (-6 : Int32)]) (st := []) rfl (ct_Nm_refuse X (-6 : Int32) q3.2) (Nat.le_trans (Nat.le_of_ble_eq_true rfl) hF0) rfl rfl (Nat.le_of_ble_eq_true rfl) dk_Nm_bid_32 (fun q7 => ?_)
      exact rn_iret rfl dk_Nm_bid_35
  · refine rn_aload_n (pc := 11) 0 dk_Nm_bid_11 rfl rfl rfl ?_
    refine rn_iconst (pc := 12) (-1 : Int32) dk_Nm_bid_12 cn_i_m1 ?_
    refine cl_Nm_73 (pc := 13) (As := [.int (-1 : Int32)]) (st := []) rfl (ct_Nm_refuse X (-1 : Int32) q1.2) (Nat.le_trans (Nat.le_of_ble_eq_true rfl) hF0) rfl rfl (Nat.le_of_ble_eq_true rfl) dk_Nm_bid_13 (fun q8 => ?_)
    exact rn_iret rfl dk_Nm_bid_16
theorem dk_Nm_deed_0 : decode mi_Nm_deed.2.1 0 = .ok (.aload_n 0, 1) := by decide +kernel
theorem dk_Nm_deed_1 : decode mi_Nm_deed.2.1 1 = .ok (.getfield 18, 3) := by decide +kernel
theorem dk_Nm_deed_4 : decode mi_Nm_deed.2.1 4 = .ok (.iload_n 1, 1) := by decide +kernel
theorem dk_Nm_deed_5 : decode mi_Nm_deed.2.1 5 = .ok (.invokevirtual 107, 3) := by decide +kernel
theorem dk_Nm_deed_8 : decode mi_Nm_deed.2.1 8 = .ok (.ifCond .ne 9, 3) := by decide +kernel
theorem dk_Nm_deed_11 : decode mi_Nm_deed.2.1 11 = .ok (.aload_n 0, 1) := by decide +kernel
theorem dk_Nm_deed_12 : decode mi_Nm_deed.2.1 12 = .ok (.iconst (-1), 1) := by decide +kernel
theorem dk_Nm_deed_13 : decode mi_Nm_deed.2.1 13 = .ok (.invokevirtual 73, 3) := by decide +kernel
theorem dk_Nm_deed_16 : decode mi_Nm_deed.2.1 16 = .ok (.ireturn, 1) := by decide +kernel
theorem dk_Nm_deed_17 : decode mi_Nm_deed.2.1 17 = .ok (.iload_n 2, 1) := by decide +kernel
theorem dk_Nm_deed_18 : decode mi_Nm_deed.2.1 18 = .ok (.iconst 0, 1) := by decide +kernel
theorem dk_Nm_deed_19 : decode mi_Nm_deed.2.1 19 = .ok (.iconst 2, 1) := by decide +kernel
theorem dk_Nm_deed_20 : decode mi_Nm_deed.2.1 20 = .ok (.invokestatic 144, 3) := by decide +kernel
theorem dk_Nm_deed_23 : decode mi_Nm_deed.2.1 23 = .ok (.ifCond .ne 10, 3) := by decide +kernel
theorem dk_Nm_deed_26 : decode mi_Nm_deed.2.1 26 = .ok (.aload_n 0, 1) := by decide +kernel
theorem dk_Nm_deed_27 : decode mi_Nm_deed.2.1 27 = .ok (.bipush (-5), 2) := by decide +kernel
theorem dk_Nm_deed_29 : decode mi_Nm_deed.2.1 29 = .ok (.invokevirtual 73, 3) := by decide +kernel
theorem dk_Nm_deed_32 : decode mi_Nm_deed.2.1 32 = .ok (.ireturn, 1) := by decide +kernel
theorem dk_Nm_deed_33 : decode mi_Nm_deed.2.1 33 = .ok (.aload_n 0, 1) := by decide +kernel
theorem dk_Nm_deed_34 : decode mi_Nm_deed.2.1 34 = .ok (.getfield 18, 3) := by decide +kernel
theorem dk_Nm_deed_37 : decode mi_Nm_deed.2.1 37 = .ok (.iload_n 1, 1) := by decide +kernel
theorem dk_Nm_deed_38 : decode mi_Nm_deed.2.1 38 = .ok (.iload_n 2, 1) := by decide +kernel
theorem dk_Nm_deed_39 : decode mi_Nm_deed.2.1 39 = .ok (.invokevirtual 307, 3) := by decide +kernel
theorem dk_Nm_deed_42 : decode mi_Nm_deed.2.1 42 = .ok (.ifCond .ne 10, 3) := by decide +kernel
theorem dk_Nm_deed_45 : decode mi_Nm_deed.2.1 45 = .ok (.aload_n 0, 1) := by decide +kernel
theorem dk_Nm_deed_46 : decode mi_Nm_deed.2.1 46 = .ok (.bipush (-6), 2) := by decide +kernel
theorem dk_Nm_deed_48 : decode mi_Nm_deed.2.1 48 = .ok (.invokevirtual 73, 3) := by decide +kernel
theorem dk_Nm_deed_51 : decode mi_Nm_deed.2.1 51 = .ok (.ireturn, 1) := by decide +kernel
theorem dk_Nm_deed_52 : decode mi_Nm_deed.2.1 52 = .ok (.aload_n 0, 1) := by decide +kernel
theorem dk_Nm_deed_53 : decode mi_Nm_deed.2.1 53 = .ok (.getfield 18, 3) := by decide +kernel
theorem dk_Nm_deed_56 : decode mi_Nm_deed.2.1 56 = .ok (.iload_n 1, 1) := by decide +kernel
theorem dk_Nm_deed_57 : decode mi_Nm_deed.2.1 57 = .ok (.iload_n 2, 1) := by decide +kernel
theorem dk_Nm_deed_58 : decode mi_Nm_deed.2.1 58 = .ok (.invokevirtual 310, 3) := by decide +kernel
theorem dk_Nm_deed_61 : decode mi_Nm_deed.2.1 61 = .ok (.pop, 1) := by decide +kernel
theorem dk_Nm_deed_62 : decode mi_Nm_deed.2.1 62 = .ok (.aload_n 0, 1) := by decide +kernel
theorem dk_Nm_deed_63 : decode mi_Nm_deed.2.1 63 = .ok (.getfield 18, 3) := by decide +kernel
theorem dk_Nm_deed_66 : decode mi_Nm_deed.2.1 66 = .ok (.getfield 168, 3) := by decide +kernel
theorem dk_Nm_deed_69 : decode mi_Nm_deed.2.1 69 = .ok (.ireturn, 1) := by decide +kernel
def Nm_deed (p1 : Int32) (p2 : Int32) (σ : nm_St) : Option (Int32 × nm_St) :=
  ((Is_isMaker 2 p1 σ).bind fun q1 =>
  (if q1.1 = 0 then
    ((Nm_refuse (-1 : Int32) q1.2).bind fun q10 =>
    some (q10.1, q10.2))
  else
    ((Nm_isWithin p2 (0 : Int32) (2 : Int32) q1.2).bind fun q3 =>
    (if q3.1 = 0 then
      ((Nm_refuse (-5 : Int32) q3.2).bind fun q9 =>
      some (q9.1, q9.2))
    else
      ((Is_canSuffer 2 p1 p2 q3.2).bind fun q5 =>
      (if q5.1 = 0 then
        ((Nm_refuse (-6 : Int32) q5.2).bind fun q8 =>
        some (q8.1, q8.2))
      else
        ((Is_suffer 2 p1 p2 q5.2).bind fun q7 =>
        some ((q7.2.1 2 8), q7.2))))))))
set_option maxRecDepth 100000 in
set_option maxHeartbeats 4000000 in
theorem ct_Nm_deed (X : nm_X) (p1 : Int32) (p2 : Int32) (σ : nm_St) : Ct X mi_Nm_deed 3 nm_wI [.ref 0, .int p1, .int p2] σ (Nm_deed p1 p2 σ) := by
  refine Ct.of (by decide +kernel) rfl (fun F hF0 => ?_)
  unfold Nm_deed
  refine rn_aload_n (pc := 0) 0 dk_Nm_deed_0 rfl rfl rfl ?_
  refine gf_Nm_18 (pc := 1) rfl dk_Nm_deed_1 ?_
  refine rn_iload_n (pc := 4) 1 dk_Nm_deed_4 rfl rfl ?_
  refine cl_Nm_107 (pc := 5) (As := [.int p1]) (st := []) 2 rfl rfl (ct_Is_isMaker X 2 rfl p1 σ) (Nat.le_trans (Nat.le_of_ble_eq_true rfl) hF0) rfl rfl (Nat.le_of_ble_eq_true rfl) dk_Nm_deed_5 (fun q1 => ?_)
  refine rn_if_ne (pc := 8) 17 dk_Nm_deed_8 (by decide) (fun c2 => ?_) (fun c2 => ?_)
  · refine rn_iload_n (pc := 17) 2 dk_Nm_deed_17 rfl rfl ?_
    refine rn_iconst (pc := 18) (0 : Int32) dk_Nm_deed_18 cn_i_0 ?_
    refine rn_iconst (pc := 19) (2 : Int32) dk_Nm_deed_19 cn_i_2 ?_
    refine cl_Nm_144 (pc := 20) (As := [.int p2, .int (0 : Int32), .int (2 : Int32)]) (st := []) rfl (ct_Nm_isWithin X p2 (0 : Int32) (2 : Int32) q1.2) (Nat.le_trans (Nat.le_of_ble_eq_true rfl) hF0) rfl rfl (Nat.le_of_ble_eq_true rfl) dk_Nm_deed_20 (fun q3 => ?_)
    refine rn_if_ne (pc := 23) 33 dk_Nm_deed_23 (by decide) (fun c4 => ?_) (fun c4 => ?_)
    · refine rn_aload_n (pc := 33) 0 dk_Nm_deed_33 rfl rfl rfl ?_
      refine gf_Nm_18 (pc := 34) rfl dk_Nm_deed_34 ?_
      refine rn_iload_n (pc := 37) 1 dk_Nm_deed_37 rfl rfl ?_
      refine rn_iload_n (pc := 38) 2 dk_Nm_deed_38 rfl rfl ?_
      refine cl_Nm_307 (pc := 39) (As := [.int p1, .int p2]) (st := []) 2 rfl rfl (ct_Is_canSuffer X 2 rfl p1 p2 q3.2) (Nat.le_trans (Nat.le_of_ble_eq_true rfl) hF0) rfl rfl (Nat.le_of_ble_eq_true rfl) dk_Nm_deed_39 (fun q5 => ?_)
      refine rn_if_ne (pc := 42) 52 dk_Nm_deed_42 (by decide) (fun c6 => ?_) (fun c6 => ?_)
      · refine rn_aload_n (pc := 52) 0 dk_Nm_deed_52 rfl rfl rfl ?_
        refine gf_Nm_18 (pc := 53) rfl dk_Nm_deed_53 ?_
        refine rn_iload_n (pc := 56) 1 dk_Nm_deed_56 rfl rfl ?_
        refine rn_iload_n (pc := 57) 2 dk_Nm_deed_57 rfl rfl ?_
        refine cl_Nm_310 (pc := 58) (As := [.int p1, .int p2]) (st := []) 2 rfl rfl (ct_Is_suffer X 2 rfl p1 p2 q5.2) (Nat.le_trans (Nat.le_of_ble_eq_true rfl) hF0) rfl rfl (Nat.le_of_ble_eq_true rfl) dk_Nm_deed_58 (fun q7 => ?_)
        refine rn_pop (pc := 61) dk_Nm_deed_61 rfl ?_
        refine rn_aload_n (pc := 62) 0 dk_Nm_deed_62 rfl rfl rfl ?_
        refine gf_Nm_18 (pc := 63) rfl dk_Nm_deed_63 ?_
        refine gf_Nm_168 (pc := 66) 2 rfl rfl dk_Nm_deed_66 ?_
        exact rn_iret rfl dk_Nm_deed_69
      · refine rn_aload_n (pc := 45) 0 dk_Nm_deed_45 rfl rfl rfl ?_
        refine rn_bipush (pc := 46) (-6 : Int32) dk_Nm_deed_46 cn_b_m6 ?_
        refine cl_Nm_73 (pc := 48) (As := [.int (-6 : Int32)]) (st := []) rfl (ct_Nm_refuse X (-6 : Int32) q5.2) (Nat.le_trans (Nat.le_of_ble_eq_true rfl) hF0) rfl rfl (Nat.le_of_ble_eq_true rfl) dk_Nm_deed_48 (fun q8 => ?_)
        exact rn_iret rfl dk_Nm_deed_51
    · refine rn_aload_n (pc := 26) 0 dk_Nm_deed_26 rfl rfl rfl ?_
      refine rn_bipush (pc := 27) (-5 : Int32) dk_Nm_deed_27 cn_b_m5 ?_
      refine cl_Nm_73 (pc := 29) (As := [.int (-5 : Int32)]) (st := []) rfl (ct_Nm_refuse X (-5 : Int32) q3.2) (Nat.le_trans (Nat.le_of_ble_eq_true rfl) hF0) rfl rfl (Nat.le_of_ble_eq_true rfl) dk_Nm_deed_29 (fun q9 => ?_)
      exact rn_iret rfl dk_Nm_deed_32
  · refine rn_aload_n (pc := 11) 0 dk_Nm_deed_11 rfl rfl rfl ?_
    refine rn_iconst (pc := 12) (-1 : Int32) dk_Nm_deed_12 cn_i_m1 ?_
    refine cl_Nm_73 (pc := 13) (As := [.int (-1 : Int32)]) (st := []) rfl (ct_Nm_refuse X (-1 : Int32) q1.2) (Nat.le_trans (Nat.le_of_ble_eq_true rfl) hF0) rfl rfl (Nat.le_of_ble_eq_true rfl) dk_Nm_deed_13 (fun q10 => ?_)
    exact rn_iret rfl dk_Nm_deed_16
theorem dk_Is_draw_0 : decode mi_Is_draw.2.1 0 = .ok (.aload_n 0, 1) := by decide +kernel
theorem dk_Is_draw_1 : decode mi_Is_draw.2.1 1 = .ok (.aload_n 0, 1) := by decide +kernel
theorem dk_Is_draw_2 : decode mi_Is_draw.2.1 2 = .ok (.getfield 46, 3) := by decide +kernel
theorem dk_Is_draw_5 : decode mi_Is_draw.2.1 5 = .ok (.ldc 140, 2) := by decide +kernel
theorem dk_Is_draw_7 : decode mi_Is_draw.2.1 7 = .ok (.imul, 1) := by decide +kernel
theorem dk_Is_draw_8 : decode mi_Is_draw.2.1 8 = .ok (.sipush 12345, 3) := by decide +kernel
theorem dk_Is_draw_11 : decode mi_Is_draw.2.1 11 = .ok (.iadd, 1) := by decide +kernel
theorem dk_Is_draw_12 : decode mi_Is_draw.2.1 12 = .ok (.putfield 46, 3) := by decide +kernel
theorem dk_Is_draw_15 : decode mi_Is_draw.2.1 15 = .ok (.iload_n 1, 1) := by decide +kernel
theorem dk_Is_draw_16 : decode mi_Is_draw.2.1 16 = .ok (.ifCond .le 15, 3) := by decide +kernel
theorem dk_Is_draw_19 : decode mi_Is_draw.2.1 19 = .ok (.aload_n 0, 1) := by decide +kernel
theorem dk_Is_draw_20 : decode mi_Is_draw.2.1 20 = .ok (.getfield 46, 3) := by decide +kernel
theorem dk_Is_draw_23 : decode mi_Is_draw.2.1 23 = .ok (.bipush 16, 2) := by decide +kernel
theorem dk_Is_draw_25 : decode mi_Is_draw.2.1 25 = .ok (.iushr, 1) := by decide +kernel
theorem dk_Is_draw_26 : decode mi_Is_draw.2.1 26 = .ok (.iload_n 1, 1) := by decide +kernel
theorem dk_Is_draw_27 : decode mi_Is_draw.2.1 27 = .ok (.irem, 1) := by decide +kernel
theorem dk_Is_draw_28 : decode mi_Is_draw.2.1 28 = .ok (.goto 4, 3) := by decide +kernel
theorem dk_Is_draw_31 : decode mi_Is_draw.2.1 31 = .ok (.iconst 0, 1) := by decide +kernel
theorem dk_Is_draw_32 : decode mi_Is_draw.2.1 32 = .ok (.ireturn, 1) := by decide +kernel
def Is_draw (o : Nat) (p1 : Int32) (σ : nm_St) : Option (Int32 × nm_St) :=
  (nm_let (nm_pI σ o 11 (((σ.1 o 11) * (1103515245 : Int32)) + (12345 : Int32))) fun s1 =>
  (if p1 ≤ 0 then
    some ((0 : Int32), s1)
  else
    (nm_g (!decide (p1 = 0)) (
    some (((UInt32.toInt32 (Int32.toUInt32 (s1.1 o 11) >>> (Int32.toUInt32 (16 : Int32) &&& Int32.toUInt32 31))) - (UInt32.toInt32 (Int32.toUInt32 (s1.1 o 11) >>> (Int32.toUInt32 (16 : Int32) &&& Int32.toUInt32 31))) / p1 * p1), s1)))))
set_option maxRecDepth 100000 in
set_option maxHeartbeats 4000000 in
theorem ct_Is_draw (X : nm_X) (o : Nat) (ho : nm_isl o = true) (p1 : Int32) (σ : nm_St) : Ct X mi_Is_draw 0 nm_wI [.ref o, .int p1] σ (Is_draw o p1 σ) := by
  refine Ct.of (by decide +kernel) rfl (fun F hF0 => ?_)
  unfold Is_draw
  refine rn_aload_n (pc := 0) 0 dk_Is_draw_0 rfl rfl (nm_rok_isl ho) ?_
  refine rn_aload_n (pc := 1) 0 dk_Is_draw_1 rfl rfl (nm_rok_isl ho) ?_
  refine gf_Is_46 (pc := 2) o ho rfl dk_Is_draw_2 ?_
  refine rn_ldc (pc := 5) (1103515245 : Int32) dk_Is_draw_5 wd_983 ?_
  refine rn_imul (pc := 7) dk_Is_draw_7 ?_
  refine rn_sipush (pc := 8) (12345 : Int32) dk_Is_draw_8 cn_s_12345 ?_
  refine rn_iadd (pc := 11) dk_Is_draw_11 ?_
  refine pf_Is_46 (pc := 12) o ho rfl dk_Is_draw_12 ?_
  refine rn_lets (fun s1 => ?_)
  refine rn_iload_n (pc := 15) 1 dk_Is_draw_15 rfl rfl ?_
  refine rn_if_le (pc := 16) 31 dk_Is_draw_16 (by decide) (fun c2 => ?_) (fun c2 => ?_)
  · refine rn_iconst (pc := 31) (0 : Int32) dk_Is_draw_31 cn_i_0 ?_
    exact rn_iret rfl dk_Is_draw_32
  · refine rn_aload_n (pc := 19) 0 dk_Is_draw_19 rfl rfl (nm_rok_isl ho) ?_
    refine gf_Is_46 (pc := 20) o ho rfl dk_Is_draw_20 ?_
    refine rn_bipush (pc := 23) (16 : Int32) dk_Is_draw_23 cn_b_16 ?_
    refine rn_iushr (pc := 25) dk_Is_draw_25 ?_
    refine rn_iload_n (pc := 26) 1 dk_Is_draw_26 rfl rfl ?_
    refine rn_irem (pc := 27) dk_Is_draw_27 ?_
    refine rn_goto (pc := 28) 32 dk_Is_draw_28 (by decide) ?_
    exact rn_iret rfl dk_Is_draw_32
theorem dk_Is_sendLetters_0 : decode mi_Is_sendLetters.2.1 0 = .ok (.iconst 0, 1) := by decide +kernel
theorem dk_Is_sendLetters_1 : decode mi_Is_sendLetters.2.1 1 = .ok (.istore_n 1, 1) := by decide +kernel
theorem dk_Is_sendLetters_2 : decode mi_Is_sendLetters.2.1 2 = .ok (.iconst 0, 1) := by decide +kernel
theorem dk_Is_sendLetters_3 : decode mi_Is_sendLetters.2.1 3 = .ok (.istore_n 2, 1) := by decide +kernel
theorem dk_Is_sendLetters_4 : decode mi_Is_sendLetters.2.1 4 = .ok (.iload_n 2, 1) := by decide +kernel
theorem dk_Is_sendLetters_5 : decode mi_Is_sendLetters.2.1 5 = .ok (.bipush 8, 2) := by decide +kernel
theorem dk_Is_sendLetters_7 : decode mi_Is_sendLetters.2.1 7 = .ok (.if_icmp .ge 71, 3) := by decide +kernel
theorem dk_Is_sendLetters_10 : decode mi_Is_sendLetters.2.1 10 = .ok (.aload_n 0, 1) := by decide +kernel
theorem dk_Is_sendLetters_11 : decode mi_Is_sendLetters.2.1 11 = .ok (.iload_n 2, 1) := by decide +kernel
theorem dk_Is_sendLetters_12 : decode mi_Is_sendLetters.2.1 12 = .ok (.iconst 1, 1) := by decide +kernel
theorem dk_Is_sendLetters_13 : decode mi_Is_sendLetters.2.1 13 = .ok (.invokevirtual 77, 3) := by decide +kernel
theorem dk_Is_sendLetters_16 : decode mi_Is_sendLetters.2.1 16 = .ok (.ifCond .eq 28, 3) := by decide +kernel
theorem dk_Is_sendLetters_19 : decode mi_Is_sendLetters.2.1 19 = .ok (.aload_n 0, 1) := by decide +kernel
theorem dk_Is_sendLetters_20 : decode mi_Is_sendLetters.2.1 20 = .ok (.iload_n 2, 1) := by decide +kernel
theorem dk_Is_sendLetters_21 : decode mi_Is_sendLetters.2.1 21 = .ok (.invokevirtual 74, 3) := by decide +kernel
theorem dk_Is_sendLetters_24 : decode mi_Is_sendLetters.2.1 24 = .ok (.ifCond .gt 16, 3) := by decide +kernel
theorem dk_Is_sendLetters_27 : decode mi_Is_sendLetters.2.1 27 = .ok (.aload_n 0, 1) := by decide +kernel
theorem dk_Is_sendLetters_28 : decode mi_Is_sendLetters.2.1 28 = .ok (.getfield 9, 3) := by decide +kernel
theorem dk_Is_sendLetters_31 : decode mi_Is_sendLetters.2.1 31 = .ok (.iload_n 2, 1) := by decide +kernel
theorem dk_Is_sendLetters_32 : decode mi_Is_sendLetters.2.1 32 = .ok (.iaload, 1) := by decide +kernel
theorem dk_Is_sendLetters_33 : decode mi_Is_sendLetters.2.1 33 = .ok (.iconst 2, 1) := by decide +kernel
theorem dk_Is_sendLetters_34 : decode mi_Is_sendLetters.2.1 34 = .ok (.invokestatic 70, 3) := by decide +kernel
theorem dk_Is_sendLetters_37 : decode mi_Is_sendLetters.2.1 37 = .ok (.ifCond .eq 7, 3) := by decide +kernel
theorem dk_Is_sendLetters_40 : decode mi_Is_sendLetters.2.1 40 = .ok (.iconst 1, 1) := by decide +kernel
theorem dk_Is_sendLetters_41 : decode mi_Is_sendLetters.2.1 41 = .ok (.goto 4, 3) := by decide +kernel
theorem dk_Is_sendLetters_44 : decode mi_Is_sendLetters.2.1 44 = .ok (.iconst 0, 1) := by decide +kernel
theorem dk_Is_sendLetters_45 : decode mi_Is_sendLetters.2.1 45 = .ok (.istore_n 3, 1) := by decide +kernel
theorem dk_Is_sendLetters_46 : decode mi_Is_sendLetters.2.1 46 = .ok (.iload_n 3, 1) := by decide +kernel
theorem dk_Is_sendLetters_47 : decode mi_Is_sendLetters.2.1 47 = .ok (.ifCond .eq 25, 3) := by decide +kernel
theorem dk_Is_sendLetters_50 : decode mi_Is_sendLetters.2.1 50 = .ok (.aload_n 0, 1) := by decide +kernel
theorem dk_Is_sendLetters_51 : decode mi_Is_sendLetters.2.1 51 = .ok (.bipush 100, 2) := by decide +kernel
theorem dk_Is_sendLetters_53 : decode mi_Is_sendLetters.2.1 53 = .ok (.invokevirtual 125, 3) := by decide +kernel
theorem dk_Is_sendLetters_56 : decode mi_Is_sendLetters.2.1 56 = .ok (.aload_n 0, 1) := by decide +kernel
theorem dk_Is_sendLetters_57 : decode mi_Is_sendLetters.2.1 57 = .ok (.getfield 37, 3) := by decide +kernel
theorem dk_Is_sendLetters_60 : decode mi_Is_sendLetters.2.1 60 = .ok (.if_icmp .ge 12, 3) := by decide +kernel
theorem dk_Is_sendLetters_63 : decode mi_Is_sendLetters.2.1 63 = .ok (.aload_n 0, 1) := by decide +kernel
theorem dk_Is_sendLetters_64 : decode mi_Is_sendLetters.2.1 64 = .ok (.iload_n 2, 1) := by decide +kernel
theorem dk_Is_sendLetters_65 : decode mi_Is_sendLetters.2.1 65 = .ok (.iconst 0, 1) := by decide +kernel
theorem dk_Is_sendLetters_66 : decode mi_Is_sendLetters.2.1 66 = .ok (.invokevirtual 112, 3) := by decide +kernel
theorem dk_Is_sendLetters_69 : decode mi_Is_sendLetters.2.1 69 = .ok (.iinc 1 1, 3) := by decide +kernel
theorem dk_Is_sendLetters_72 : decode mi_Is_sendLetters.2.1 72 = .ok (.iinc 2 1, 3) := by decide +kernel
theorem dk_Is_sendLetters_75 : decode mi_Is_sendLetters.2.1 75 = .ok (.goto (-71), 3) := by decide +kernel
theorem dk_Is_sendLetters_78 : decode mi_Is_sendLetters.2.1 78 = .ok (.iload_n 1, 1) := by decide +kernel
theorem dk_Is_sendLetters_79 : decode mi_Is_sendLetters.2.1 79 = .ok (.ireturn, 1) := by decide +kernel
def Is_sendLetters_j45 (o : Nat) (k_4 : Int32 → Int32 → nm_St → Option (Int32 × nm_St)) (x1 : Int32) (x2 : Int32) (y0 : Int32) (σ : nm_St) : Option (Int32 × nm_St) :=
  (if y0 = 0 then
    k_4 x1 (x2 + (1 : Int32)) σ
  else
    ((Is_draw o (100 : Int32) σ).bind fun q5 =>
    (if (q5.2.1 o 8) ≤ q5.1 then
      k_4 x1 (x2 + (1 : Int32)) q5.2
    else
      ((Is_moveTo o x2 (0 : Int32) q5.2).bind fun q7 =>
      k_4 (x1 + (1 : Int32)) (x2 + (1 : Int32)) q7.2))))
set_option maxRecDepth 100000 in
set_option maxHeartbeats 4000000 in
theorem r_Is_sendLetters_j45 (X : nm_X) (F : nm_F) (hF0 : 3 ≤ nm_d F) (o : Nat) (ho : nm_isl o = true) (k_4 : Int32 → Int32 → nm_St → Option (Int32 × nm_St)) (hk_4 : ∀ (x1 : Int32) (x2 : Int32) (σ : nm_St), Rn X mi_Is_sendLetters F (nm_Qf X F nm_wI) [(0, .ref o), (1, .int x1), (2, .int x2)] [] 4 σ (k_4 x1 x2 σ)) (x1 : Int32) (x2 : Int32) (y0 : Int32) (σ : nm_St) : Rn X mi_Is_sendLetters F (nm_Qf X F nm_wI) [(0, .ref o), (1, .int x1), (2, .int x2)] [.int y0] 45 σ (Is_sendLetters_j45 o k_4 x1 x2 y0 σ) := by
  unfold Is_sendLetters_j45
  refine rn_istore_n (pc := 45) 3 dk_Is_sendLetters_45 rfl rfl rfl ?_
  refine rn_iload_n (pc := 46) 3 dk_Is_sendLetters_46 rfl rfl ?_
  refine rn_if_eq (pc := 47) 72 dk_Is_sendLetters_47 (by decide) (fun c4 => ?_) (fun c4 => ?_)
  · refine rn_iinc (pc := 72) (1 : Int32) dk_Is_sendLetters_72 cn_i_1 rfl rfl rfl ?_
    refine rn_goto (pc := 75) 4 dk_Is_sendLetters_75 (by decide) ?_
    exact rn_sub (by rfl) (hk_4 x1 (x2 + (1 : Int32)) σ)
  · refine rn_aload_n (pc := 50) 0 dk_Is_sendLetters_50 rfl rfl (nm_rok_isl ho) ?_
    refine rn_bipush (pc := 51) (100 : Int32) dk_Is_sendLetters_51 cn_b_100 ?_
    refine cl_Is_125 (pc := 53) (As := [.int (100 : Int32)]) (st := []) o ho rfl (ct_Is_draw X o ho (100 : Int32) σ) (Nat.le_trans (Nat.le_of_ble_eq_true rfl) hF0) rfl rfl (Nat.le_of_ble_eq_true rfl) dk_Is_sendLetters_53 (fun q5 => ?_)
    refine rn_aload_n (pc := 56) 0 dk_Is_sendLetters_56 rfl rfl (nm_rok_isl ho) ?_
    refine gf_Is_37 (pc := 57) o ho rfl dk_Is_sendLetters_57 ?_
    refine rn_icmp_ge (pc := 60) 72 dk_Is_sendLetters_60 (by decide) (fun c6 => ?_) (fun c6 => ?_)
    · refine rn_iinc (pc := 72) (1 : Int32) dk_Is_sendLetters_72 cn_i_1 rfl rfl rfl ?_
      refine rn_goto (pc := 75) 4 dk_Is_sendLetters_75 (by decide) ?_
      exact rn_sub (by rfl) (hk_4 x1 (x2 + (1 : Int32)) q5.2)
    · refine rn_aload_n (pc := 63) 0 dk_Is_sendLetters_63 rfl rfl (nm_rok_isl ho) ?_
      refine rn_iload_n (pc := 64) 2 dk_Is_sendLetters_64 rfl rfl ?_
      refine rn_iconst (pc := 65) (0 : Int32) dk_Is_sendLetters_65 cn_i_0 ?_
      refine cl_Is_112 (pc := 66) (As := [.int x2, .int (0 : Int32)]) (st := []) o ho rfl (ct_Is_moveTo X o ho x2 (0 : Int32) q5.2) (Nat.le_trans (Nat.le_of_ble_eq_true rfl) hF0) rfl rfl (Nat.le_of_ble_eq_true rfl) dk_Is_sendLetters_66 (fun q7 => ?_)
      refine rn_iinc (pc := 69) (1 : Int32) dk_Is_sendLetters_69 cn_i_1 rfl rfl rfl ?_
      refine rn_iinc (pc := 72) (1 : Int32) dk_Is_sendLetters_72 cn_i_1 rfl rfl rfl ?_
      refine rn_goto (pc := 75) 4 dk_Is_sendLetters_75 (by decide) ?_
      exact rn_sub (by rfl) (hk_4 (x1 + (1 : Int32)) (x2 + (1 : Int32)) q7.2)
def Is_sendLetters_j44 (o : Nat) (k_4 : Int32 → Int32 → nm_St → Option (Int32 × nm_St)) (x1 : Int32) (x2 : Int32) (σ : nm_St) : Option (Int32 × nm_St) :=
  Is_sendLetters_j45 o k_4 x1 x2 (0 : Int32) σ
set_option maxRecDepth 100000 in
set_option maxHeartbeats 4000000 in
theorem r_Is_sendLetters_j44 (X : nm_X) (F : nm_F) (hF0 : 3 ≤ nm_d F) (o : Nat) (ho : nm_isl o = true) (k_4 : Int32 → Int32 → nm_St → Option (Int32 × nm_St)) (hk_4 : ∀ (x1 : Int32) (x2 : Int32) (σ : nm_St), Rn X mi_Is_sendLetters F (nm_Qf X F nm_wI) [(0, .ref o), (1, .int x1), (2, .int x2)] [] 4 σ (k_4 x1 x2 σ)) (x1 : Int32) (x2 : Int32) (σ : nm_St) : Rn X mi_Is_sendLetters F (nm_Qf X F nm_wI) [(0, .ref o), (1, .int x1), (2, .int x2)] [] 44 σ (Is_sendLetters_j44 o k_4 x1 x2 σ) := by
  unfold Is_sendLetters_j44
  refine rn_iconst (pc := 44) (0 : Int32) dk_Is_sendLetters_44 cn_i_0 ?_
  exact rn_sub (by rfl) (r_Is_sendLetters_j45 X F hF0 o ho _ hk_4 x1 x2 (0 : Int32) σ)
def Is_sendLetters_j40 (o : Nat) (k_4 : Int32 → Int32 → nm_St → Option (Int32 × nm_St)) (x1 : Int32) (x2 : Int32) (σ : nm_St) : Option (Int32 × nm_St) :=
  Is_sendLetters_j45 o k_4 x1 x2 (1 : Int32) σ
set_option maxRecDepth 100000 in
set_option maxHeartbeats 4000000 in
theorem r_Is_sendLetters_j40 (X : nm_X) (F : nm_F) (hF0 : 3 ≤ nm_d F) (o : Nat) (ho : nm_isl o = true) (k_4 : Int32 → Int32 → nm_St → Option (Int32 × nm_St)) (hk_4 : ∀ (x1 : Int32) (x2 : Int32) (σ : nm_St), Rn X mi_Is_sendLetters F (nm_Qf X F nm_wI) [(0, .ref o), (1, .int x1), (2, .int x2)] [] 4 σ (k_4 x1 x2 σ)) (x1 : Int32) (x2 : Int32) (σ : nm_St) : Rn X mi_Is_sendLetters F (nm_Qf X F nm_wI) [(0, .ref o), (1, .int x1), (2, .int x2)] [] 40 σ (Is_sendLetters_j40 o k_4 x1 x2 σ) := by
  unfold Is_sendLetters_j40
  refine rn_iconst (pc := 40) (1 : Int32) dk_Is_sendLetters_40 cn_i_1 ?_
  refine rn_goto (pc := 41) 45 dk_Is_sendLetters_41 (by decide) ?_
  exact rn_sub (by rfl) (r_Is_sendLetters_j45 X F hF0 o ho _ hk_4 x1 x2 (1 : Int32) σ)
def Is_sendLetters_l4 (o : Nat) (k_78 : Int32 → nm_St → Option (Int32 × nm_St)) : Nat → Int32 → Int32 → nm_St → Option (Int32 × nm_St)
  | 0, _, _, _ => none
  | n + 1, x1, x2, σ =>
    (if (8 : Int32) ≤ x2 then
      k_78 x1 σ
    else
      ((Is_isAt o x2 (1 : Int32) σ).bind fun q2 =>
      (if q2.1 = 0 then
        Is_sendLetters_j44 o (Is_sendLetters_l4 o k_78 n) x1 x2 q2.2
      else
        ((Is_kinAtHome o x2 q2.2).bind fun q8 =>
        (if 0 < q8.1 then
          Is_sendLetters_j40 o (Is_sendLetters_l4 o k_78 n) x1 x2 q8.2
        else
          (nm_g (nm_in x2 8) (
          ((Nm_isUnder (q8.2.1 (o + 1) x2.toNatClampNeg) (2 : Int32) q8.2).bind fun q11 =>
          (if q11.1 = 0 then
            Is_sendLetters_j44 o (Is_sendLetters_l4 o k_78 n) x1 x2 q11.2
          else
            Is_sendLetters_j40 o (Is_sendLetters_l4 o k_78 n) x1 x2 q11.2)))))))))
set_option maxRecDepth 100000 in
set_option maxHeartbeats 4000000 in
theorem r_Is_sendLetters_l4 (X : nm_X) (F : nm_F) (hF0 : 3 ≤ nm_d F) (o : Nat) (ho : nm_isl o = true) (k_78 : Int32 → nm_St → Option (Int32 × nm_St)) (hk_78 : ∀ (x1 : Int32) (σ : nm_St), Rn X mi_Is_sendLetters F (nm_Qf X F nm_wI) [(1, .int x1)] [] 78 σ (k_78 x1 σ)) : ∀ (n : Nat) (x1 : Int32) (x2 : Int32) (σ : nm_St), Rn X mi_Is_sendLetters F (nm_Qf X F nm_wI) [(0, .ref o), (1, .int x1), (2, .int x2)] [] 4 σ (Is_sendLetters_l4 o k_78 n x1 x2 σ) := by
  intro n
  induction n with
  | zero =>
    intro x1 x2 σ
    exact rn_none
  | succ n ih =>
    intro x1 x2 σ
    unfold Is_sendLetters_l4
    refine rn_iload_n (pc := 4) 2 dk_Is_sendLetters_4 rfl rfl ?_
    refine rn_bipush (pc := 5) (8 : Int32) dk_Is_sendLetters_5 cn_b_8 ?_
    refine rn_icmp_ge (pc := 7) 78 dk_Is_sendLetters_7 (by decide) (fun c1 => ?_) (fun c1 => ?_)
    · exact rn_sub (by rfl) (hk_78 x1 σ)
    · refine rn_aload_n (pc := 10) 0 dk_Is_sendLetters_10 rfl rfl (nm_rok_isl ho) ?_
      refine rn_iload_n (pc := 11) 2 dk_Is_sendLetters_11 rfl rfl ?_
      refine rn_iconst (pc := 12) (1 : Int32) dk_Is_sendLetters_12 cn_i_1 ?_
      refine cl_Is_77 (pc := 13) (As := [.int x2, .int (1 : Int32)]) (st := []) o ho rfl (ct_Is_isAt X o ho x2 (1 : Int32) σ) (Nat.le_trans (Nat.le_of_ble_eq_true rfl) hF0) rfl rfl (Nat.le_of_ble_eq_true rfl) dk_Is_sendLetters_13 (fun q2 => ?_)
      refine rn_if_eq (pc := 16) 44 dk_Is_sendLetters_16 (by decide) (fun c3 => ?_) (fun c3 => ?_)
      · exact rn_sub (by rfl) (r_Is_sendLetters_j44 X F hF0 o ho _ ih x1 x2 q2.2)
      · refine rn_aload_n (pc := 19) 0 dk_Is_sendLetters_19 rfl rfl (nm_rok_isl ho) ?_
        refine rn_iload_n (pc := 20) 2 dk_Is_sendLetters_20 rfl rfl ?_
        refine cl_Is_74 (pc := 21) (As := [.int x2]) (st := []) o ho rfl (ct_Is_kinAtHome X o ho x2 q2.2) (Nat.le_trans (Nat.le_of_ble_eq_true rfl) hF0) rfl rfl (Nat.le_of_ble_eq_true rfl) dk_Is_sendLetters_21 (fun q8 => ?_)
        refine rn_if_gt (pc := 24) 40 dk_Is_sendLetters_24 (by decide) (fun c9 => ?_) (fun c9 => ?_)
        · exact rn_sub (by rfl) (r_Is_sendLetters_j40 X F hF0 o ho _ ih x1 x2 q8.2)
        · refine rn_aload_n (pc := 27) 0 dk_Is_sendLetters_27 rfl rfl (nm_rok_isl ho) ?_
          refine gf_Is_9 (pc := 28) o ho rfl dk_Is_sendLetters_28 ?_
          refine rn_iload_n (pc := 31) 2 dk_Is_sendLetters_31 rfl rfl ?_
          refine rn_iaload (pc := 32) (nm_i1 ho) dk_Is_sendLetters_32 (fun g10 => ?_)
          refine rn_iconst (pc := 33) (2 : Int32) dk_Is_sendLetters_33 cn_i_2 ?_
          refine cl_Is_70 (pc := 34) (As := [.int (q8.2.1 (o + 1) x2.toNatClampNeg), .int (2 : Int32)]) (st := []) rfl (ct_Nm_isUnder X (q8.2.1 (o + 1) x2.toNatClampNeg) (2 : Int32) q8.2) (Nat.le_trans (Nat.le_of_ble_eq_true rfl) hF0) rfl rfl (Nat.le_of_ble_eq_true rfl) dk_Is_sendLetters_34 (fun q11 => ?_)
          refine rn_if_eq (pc := 37) 44 dk_Is_sendLetters_37 (by decide) (fun c12 => ?_) (fun c12 => ?_)
          · exact rn_sub (by rfl) (r_Is_sendLetters_j44 X F hF0 o ho _ ih x1 x2 q11.2)
          · exact rn_sub (by rfl) (r_Is_sendLetters_j40 X F hF0 o ho _ ih x1 x2 q11.2)
def Is_sendLetters (o : Nat) (σ : nm_St) : Option (Int32 × nm_St) :=
  Is_sendLetters_l4 o (fun (e14 : Int32) (s13 : nm_St) =>
    some (e14, s13)) 400 (0 : Int32) (0 : Int32) σ
set_option maxRecDepth 100000 in
set_option maxHeartbeats 4000000 in
theorem ct_Is_sendLetters (X : nm_X) (o : Nat) (ho : nm_isl o = true) (σ : nm_St) : Ct X mi_Is_sendLetters 3 nm_wI [.ref o] σ (Is_sendLetters o σ) := by
  refine Ct.of (by decide +kernel) rfl (fun F hF0 => ?_)
  unfold Is_sendLetters
  refine rn_iconst (pc := 0) (0 : Int32) dk_Is_sendLetters_0 cn_i_0 ?_
  refine rn_istore_n (pc := 1) 1 dk_Is_sendLetters_1 rfl rfl rfl ?_
  refine rn_iconst (pc := 2) (0 : Int32) dk_Is_sendLetters_2 cn_i_0 ?_
  refine rn_istore_n (pc := 3) 2 dk_Is_sendLetters_3 rfl rfl rfl ?_
  refine rn_sub (by rfl) (r_Is_sendLetters_l4 X F hF0 o ho _ (fun e14 s13 => ?_) 400 (0 : Int32) (0 : Int32) σ)
  refine rn_iload_n (pc := 78) 1 dk_Is_sendLetters_78 rfl rfl ?_
  exact rn_iret rfl dk_Is_sendLetters_79
theorem dk_Nm_write_0 : decode mi_Nm_write.2.1 0 = .ok (.aload_n 0, 1) := by decide +kernel
theorem dk_Nm_write_1 : decode mi_Nm_write.2.1 1 = .ok (.getfield 18, 3) := by decide +kernel
theorem dk_Nm_write_4 : decode mi_Nm_write.2.1 4 = .ok (.invokevirtual 313, 3) := by decide +kernel
theorem dk_Nm_write_7 : decode mi_Nm_write.2.1 7 = .ok (.ireturn, 1) := by decide +kernel
def Nm_write (σ : nm_St) : Option (Int32 × nm_St) :=
  ((Is_sendLetters 2 σ).bind fun q1 =>
  some (q1.1, q1.2))
set_option maxRecDepth 100000 in
set_option maxHeartbeats 4000000 in
theorem ct_Nm_write (X : nm_X) (σ : nm_St) : Ct X mi_Nm_write 4 nm_wI [.ref 0] σ (Nm_write σ) := by
  refine Ct.of (by decide +kernel) rfl (fun F hF0 => ?_)
  unfold Nm_write
  refine rn_aload_n (pc := 0) 0 dk_Nm_write_0 rfl rfl rfl ?_
  refine gf_Nm_18 (pc := 1) rfl dk_Nm_write_1 ?_
  refine cl_Nm_313 (pc := 4) (As := []) (st := []) 2 rfl rfl (ct_Is_sendLetters X 2 rfl σ) (Nat.le_trans (Nat.le_of_ble_eq_true rfl) hF0) rfl rfl (Nat.le_of_ble_eq_true rfl) dk_Nm_write_4 (fun q1 => ?_)
  exact rn_iret rfl dk_Nm_write_7
theorem dk_Nm_month_0 : decode mi_Nm_month.2.1 0 = .ok (.aload_n 0, 1) := by decide +kernel
theorem dk_Nm_month_1 : decode mi_Nm_month.2.1 1 = .ok (.getfield 18, 3) := by decide +kernel
theorem dk_Nm_month_4 : decode mi_Nm_month.2.1 4 = .ok (.invokevirtual 316, 3) := by decide +kernel
theorem dk_Nm_month_7 : decode mi_Nm_month.2.1 7 = .ok (.ireturn, 1) := by decide +kernel
def Nm_month (σ : nm_St) : Option (Int32 × nm_St) :=
  ((Is_passMonth 2 σ).bind fun q1 =>
  some (q1.1, q1.2))
set_option maxRecDepth 100000 in
set_option maxHeartbeats 4000000 in
theorem ct_Nm_month (X : nm_X) (σ : nm_St) : Ct X mi_Nm_month 4 nm_wI [.ref 0] σ (Nm_month σ) := by
  refine Ct.of (by decide +kernel) rfl (fun F hF0 => ?_)
  unfold Nm_month
  refine rn_aload_n (pc := 0) 0 dk_Nm_month_0 rfl rfl rfl ?_
  refine gf_Nm_18 (pc := 1) rfl dk_Nm_month_1 ?_
  refine cl_Nm_316 (pc := 4) (As := []) (st := []) 2 rfl rfl (ct_Is_passMonth X 2 rfl σ) (Nat.le_trans (Nat.le_of_ble_eq_true rfl) hF0) rfl rfl (Nat.le_of_ble_eq_true rfl) dk_Nm_month_4 (fun q1 => ?_)
  exact rn_iret rfl dk_Nm_month_7
theorem dk_Is_passMonthByDraws_0 : decode mi_Is_passMonthByDraws.2.1 0 = .ok (.aload_n 0, 1) := by decide +kernel
theorem dk_Is_passMonthByDraws_1 : decode mi_Is_passMonthByDraws.2.1 1 = .ok (.iconst 4, 1) := by decide +kernel
theorem dk_Is_passMonthByDraws_2 : decode mi_Is_passMonthByDraws.2.1 2 = .ok (.invokevirtual 125, 3) := by decide +kernel
theorem dk_Is_passMonthByDraws_5 : decode mi_Is_passMonthByDraws.2.1 5 = .ok (.istore_n 1, 1) := by decide +kernel
theorem dk_Is_passMonthByDraws_6 : decode mi_Is_passMonthByDraws.2.1 6 = .ok (.iload_n 1, 1) := by decide +kernel
theorem dk_Is_passMonthByDraws_7 : decode mi_Is_passMonthByDraws.2.1 7 = .ok (.ifCond .ne 26, 3) := by decide +kernel
theorem dk_Is_passMonthByDraws_10 : decode mi_Is_passMonthByDraws.2.1 10 = .ok (.aload_n 0, 1) := by decide +kernel
theorem dk_Is_passMonthByDraws_11 : decode mi_Is_passMonthByDraws.2.1 11 = .ok (.aload_n 0, 1) := by decide +kernel
theorem dk_Is_passMonthByDraws_12 : decode mi_Is_passMonthByDraws.2.1 12 = .ok (.getfield 30, 3) := by decide +kernel
theorem dk_Is_passMonthByDraws_15 : decode mi_Is_passMonthByDraws.2.1 15 = .ok (.invokevirtual 125, 3) := by decide +kernel
theorem dk_Is_passMonthByDraws_18 : decode mi_Is_passMonthByDraws.2.1 18 = .ok (.istore_n 2, 1) := by decide +kernel
theorem dk_Is_passMonthByDraws_19 : decode mi_Is_passMonthByDraws.2.1 19 = .ok (.aload_n 0, 1) := by decide +kernel
theorem dk_Is_passMonthByDraws_20 : decode mi_Is_passMonthByDraws.2.1 20 = .ok (.iload_n 2, 1) := by decide +kernel
theorem dk_Is_passMonthByDraws_21 : decode mi_Is_passMonthByDraws.2.1 21 = .ok (.aload_n 0, 1) := by decide +kernel
theorem dk_Is_passMonthByDraws_22 : decode mi_Is_passMonthByDraws.2.1 22 = .ok (.iload_n 2, 1) := by decide +kernel
theorem dk_Is_passMonthByDraws_23 : decode mi_Is_passMonthByDraws.2.1 23 = .ok (.invokevirtual 66, 3) := by decide +kernel
theorem dk_Is_passMonthByDraws_26 : decode mi_Is_passMonthByDraws.2.1 26 = .ok (.invokevirtual 128, 3) := by decide +kernel
theorem dk_Is_passMonthByDraws_29 : decode mi_Is_passMonthByDraws.2.1 29 = .ok (.pop, 1) := by decide +kernel
theorem dk_Is_passMonthByDraws_30 : decode mi_Is_passMonthByDraws.2.1 30 = .ok (.goto 35, 3) := by decide +kernel
theorem dk_Is_passMonthByDraws_33 : decode mi_Is_passMonthByDraws.2.1 33 = .ok (.iload_n 1, 1) := by decide +kernel
theorem dk_Is_passMonthByDraws_34 : decode mi_Is_passMonthByDraws.2.1 34 = .ok (.iconst 1, 1) := by decide +kernel
theorem dk_Is_passMonthByDraws_35 : decode mi_Is_passMonthByDraws.2.1 35 = .ok (.if_icmp .ne 11, 3) := by decide +kernel
theorem dk_Is_passMonthByDraws_38 : decode mi_Is_passMonthByDraws.2.1 38 = .ok (.aload_n 0, 1) := by decide +kernel
theorem dk_Is_passMonthByDraws_39 : decode mi_Is_passMonthByDraws.2.1 39 = .ok (.invokevirtual 131, 3) := by decide +kernel
theorem dk_Is_passMonthByDraws_42 : decode mi_Is_passMonthByDraws.2.1 42 = .ok (.pop, 1) := by decide +kernel
theorem dk_Is_passMonthByDraws_43 : decode mi_Is_passMonthByDraws.2.1 43 = .ok (.goto 22, 3) := by decide +kernel
theorem dk_Is_passMonthByDraws_46 : decode mi_Is_passMonthByDraws.2.1 46 = .ok (.iload_n 1, 1) := by decide +kernel
theorem dk_Is_passMonthByDraws_47 : decode mi_Is_passMonthByDraws.2.1 47 = .ok (.iconst 2, 1) := by decide +kernel
theorem dk_Is_passMonthByDraws_48 : decode mi_Is_passMonthByDraws.2.1 48 = .ok (.if_icmp .ne 17, 3) := by decide +kernel
theorem dk_Is_passMonthByDraws_51 : decode mi_Is_passMonthByDraws.2.1 51 = .ok (.aload_n 0, 1) := by decide +kernel
theorem dk_Is_passMonthByDraws_52 : decode mi_Is_passMonthByDraws.2.1 52 = .ok (.aload_n 0, 1) := by decide +kernel
theorem dk_Is_passMonthByDraws_53 : decode mi_Is_passMonthByDraws.2.1 53 = .ok (.aload_n 0, 1) := by decide +kernel
theorem dk_Is_passMonthByDraws_54 : decode mi_Is_passMonthByDraws.2.1 54 = .ok (.getfield 30, 3) := by decide +kernel
theorem dk_Is_passMonthByDraws_57 : decode mi_Is_passMonthByDraws.2.1 57 = .ok (.invokevirtual 125, 3) := by decide +kernel
theorem dk_Is_passMonthByDraws_60 : decode mi_Is_passMonthByDraws.2.1 60 = .ok (.iconst 1, 1) := by decide +kernel
theorem dk_Is_passMonthByDraws_61 : decode mi_Is_passMonthByDraws.2.1 61 = .ok (.invokevirtual 134, 3) := by decide +kernel
theorem dk_Is_passMonthByDraws_64 : decode mi_Is_passMonthByDraws.2.1 64 = .ok (.pop, 1) := by decide +kernel
theorem dk_Is_passMonthByDraws_65 : decode mi_Is_passMonthByDraws.2.1 65 = .ok (.aload_n 0, 1) := by decide +kernel
theorem dk_Is_passMonthByDraws_66 : decode mi_Is_passMonthByDraws.2.1 66 = .ok (.invokevirtual 137, 3) := by decide +kernel
theorem dk_Is_passMonthByDraws_69 : decode mi_Is_passMonthByDraws.2.1 69 = .ok (.pop, 1) := by decide +kernel
theorem dk_Is_passMonthByDraws_70 : decode mi_Is_passMonthByDraws.2.1 70 = .ok (.return_, 1) := by decide +kernel
def Is_passMonthByDraws (o : Nat) (σ : nm_St) : Option (Unit × nm_St) :=
  ((Is_draw o (4 : Int32) σ).bind fun q1 =>
  (if q1.1 = 0 then
    ((Is_draw o (q1.2.1 o 6) q1.2).bind fun q11 =>
    ((Is_priceOf o q11.1 q11.2).bind fun q12 =>
    ((Is_takeBid o q11.1 q12.1 q12.2).bind fun q13 =>
    ((Is_passMonth o q13.2).bind fun q14 =>
    some ((), q14.2)))))
  else
    (if q1.1 = (1 : Int32) then
      ((Is_sendLetters o q1.2).bind fun q9 =>
      ((Is_passMonth o q9.2).bind fun q10 =>
      some ((), q10.2)))
    else
      (if q1.1 = (2 : Int32) then
        ((Is_draw o (q1.2.1 o 6) q1.2).bind fun q6 =>
        ((Is_suffer o q6.1 (1 : Int32) q6.2).bind fun q7 =>
        ((Is_passMonth o q7.2).bind fun q8 =>
        some ((), q8.2))))
      else
        ((Is_passMonth o q1.2).bind fun q5 =>
        some ((), q5.2))))))
set_option maxRecDepth 100000 in
set_option maxHeartbeats 4000000 in
theorem ct_Is_passMonthByDraws (X : nm_X) (o : Nat) (ho : nm_isl o = true) (σ : nm_St) : Ct X mi_Is_passMonthByDraws 4 nm_wV [.ref o] σ (Is_passMonthByDraws o σ) := by
  refine Ct.of (by decide +kernel) rfl (fun F hF0 => ?_)
  unfold Is_passMonthByDraws
  refine rn_aload_n (pc := 0) 0 dk_Is_passMonthByDraws_0 rfl rfl (nm_rok_isl ho) ?_
  refine rn_iconst (pc := 1) (4 : Int32) dk_Is_passMonthByDraws_1 cn_i_4 ?_
  refine cl_Is_125 (pc := 2) (As := [.int (4 : Int32)]) (st := []) o ho rfl (ct_Is_draw X o ho (4 : Int32) σ) (Nat.le_trans (Nat.le_of_ble_eq_true rfl) hF0) rfl rfl (Nat.le_of_ble_eq_true rfl) dk_Is_passMonthByDraws_2 (fun q1 => ?_)
  refine rn_istore_n (pc := 5) 1 dk_Is_passMonthByDraws_5 rfl rfl rfl ?_
  refine rn_iload_n (pc := 6) 1 dk_Is_passMonthByDraws_6 rfl rfl ?_
  refine rn_if_ne (pc := 7) 33 dk_Is_passMonthByDraws_7 (by decide) (fun c2 => ?_) (fun c2 => ?_)
  · refine rn_iload_n (pc := 33) 1 dk_Is_passMonthByDraws_33 rfl rfl ?_
    refine rn_iconst (pc := 34) (1 : Int32) dk_Is_passMonthByDraws_34 cn_i_1 ?_
    refine rn_icmp_ne (pc := 35) 46 dk_Is_passMonthByDraws_35 (by decide) (fun c3 => ?_) (fun c3 => ?_)
    · refine rn_iload_n (pc := 46) 1 dk_Is_passMonthByDraws_46 rfl rfl ?_
      refine rn_iconst (pc := 47) (2 : Int32) dk_Is_passMonthByDraws_47 cn_i_2 ?_
      refine rn_icmp_ne (pc := 48) 65 dk_Is_passMonthByDraws_48 (by decide) (fun c4 => ?_) (fun c4 => ?_)
      · refine rn_aload_n (pc := 65) 0 dk_Is_passMonthByDraws_65 rfl rfl (nm_rok_isl ho) ?_
        refine cl_Is_137 (pc := 66) (As := []) (st := []) o ho rfl (ct_Is_passMonth X o ho q1.2) (Nat.le_trans (Nat.le_of_ble_eq_true rfl) hF0) rfl rfl (Nat.le_of_ble_eq_true rfl) dk_Is_passMonthByDraws_66 (fun q5 => ?_)
        refine rn_pop (pc := 69) dk_Is_passMonthByDraws_69 rfl ?_
        exact rn_vret rfl dk_Is_passMonthByDraws_70
      · refine rn_aload_n (pc := 51) 0 dk_Is_passMonthByDraws_51 rfl rfl (nm_rok_isl ho) ?_
        refine rn_aload_n (pc := 52) 0 dk_Is_passMonthByDraws_52 rfl rfl (nm_rok_isl ho) ?_
        refine rn_aload_n (pc := 53) 0 dk_Is_passMonthByDraws_53 rfl rfl (nm_rok_isl ho) ?_
        refine gf_Is_30 (pc := 54) o ho rfl dk_Is_passMonthByDraws_54 ?_
        refine cl_Is_125 (pc := 57) (As := [.int (q1.2.1 o 6)]) (st := [.ref o]) o ho rfl (ct_Is_draw X o ho (q1.2.1 o 6) q1.2) (Nat.le_trans (Nat.le_of_ble_eq_true rfl) hF0) rfl rfl (Nat.le_of_ble_eq_true rfl) dk_Is_passMonthByDraws_57 (fun q6 => ?_)
        refine rn_iconst (pc := 60) (1 : Int32) dk_Is_passMonthByDraws_60 cn_i_1 ?_
        refine cl_Is_134 (pc := 61) (As := [.int q6.1, .int (1 : Int32)]) (st := []) o ho rfl (ct_Is_suffer X o ho q6.1 (1 : Int32) q6.2) (Nat.le_trans (Nat.le_of_ble_eq_true rfl) hF0) rfl rfl (Nat.le_of_ble_eq_true rfl) dk_Is_passMonthByDraws_61 (fun q7 => ?_)
        refine rn_pop (pc := 64) dk_Is_passMonthByDraws_64 rfl ?_
        refine rn_aload_n (pc := 65) 0 dk_Is_passMonthByDraws_65 rfl rfl (nm_rok_isl ho) ?_
        refine cl_Is_137 (pc := 66) (As := []) (st := []) o ho rfl (ct_Is_passMonth X o ho q7.2) (Nat.le_trans (Nat.le_of_ble_eq_true rfl) hF0) rfl rfl (Nat.le_of_ble_eq_true rfl) dk_Is_passMonthByDraws_66 (fun q8 => ?_)
        refine rn_pop (pc := 69) dk_Is_passMonthByDraws_69 rfl ?_
        exact rn_vret rfl dk_Is_passMonthByDraws_70
    · refine rn_aload_n (pc := 38) 0 dk_Is_passMonthByDraws_38 rfl rfl (nm_rok_isl ho) ?_
      refine cl_Is_131 (pc := 39) (As := []) (st := []) o ho rfl (ct_Is_sendLetters X o ho q1.2) (Nat.le_trans (Nat.le_of_ble_eq_true rfl) hF0) rfl rfl (Nat.le_of_ble_eq_true rfl) dk_Is_passMonthByDraws_39 (fun q9 => ?_)
      refine rn_pop (pc := 42) dk_Is_passMonthByDraws_42 rfl ?_
      refine rn_goto (pc := 43) 65 dk_Is_passMonthByDraws_43 (by decide) ?_
      refine rn_aload_n (pc := 65) 0 dk_Is_passMonthByDraws_65 rfl rfl (nm_rok_isl ho) ?_
      refine cl_Is_137 (pc := 66) (As := []) (st := []) o ho rfl (ct_Is_passMonth X o ho q9.2) (Nat.le_trans (Nat.le_of_ble_eq_true rfl) hF0) rfl rfl (Nat.le_of_ble_eq_true rfl) dk_Is_passMonthByDraws_66 (fun q10 => ?_)
      refine rn_pop (pc := 69) dk_Is_passMonthByDraws_69 rfl ?_
      exact rn_vret rfl dk_Is_passMonthByDraws_70
  · refine rn_aload_n (pc := 10) 0 dk_Is_passMonthByDraws_10 rfl rfl (nm_rok_isl ho) ?_
    refine rn_aload_n (pc := 11) 0 dk_Is_passMonthByDraws_11 rfl rfl (nm_rok_isl ho) ?_
    refine gf_Is_30 (pc := 12) o ho rfl dk_Is_passMonthByDraws_12 ?_
    refine cl_Is_125 (pc := 15) (As := [.int (q1.2.1 o 6)]) (st := []) o ho rfl (ct_Is_draw X o ho (q1.2.1 o 6) q1.2) (Nat.le_trans (Nat.le_of_ble_eq_true rfl) hF0) rfl rfl (Nat.le_of_ble_eq_true rfl) dk_Is_passMonthByDraws_15 (fun q11 => ?_)
    refine rn_istore_n (pc := 18) 2 dk_Is_passMonthByDraws_18 rfl rfl rfl ?_
    refine rn_aload_n (pc := 19) 0 dk_Is_passMonthByDraws_19 rfl rfl (nm_rok_isl ho) ?_
    refine rn_iload_n (pc := 20) 2 dk_Is_passMonthByDraws_20 rfl rfl ?_
    refine rn_aload_n (pc := 21) 0 dk_Is_passMonthByDraws_21 rfl rfl (nm_rok_isl ho) ?_
    refine rn_iload_n (pc := 22) 2 dk_Is_passMonthByDraws_22 rfl rfl ?_
    refine cl_Is_66 (pc := 23) (As := [.int q11.1]) (st := [.int q11.1, .ref o]) o ho rfl (ct_Is_priceOf X o ho q11.1 q11.2) (Nat.le_trans (Nat.le_of_ble_eq_true rfl) hF0) rfl rfl (Nat.le_of_ble_eq_true rfl) dk_Is_passMonthByDraws_23 (fun q12 => ?_)
    refine cl_Is_128 (pc := 26) (As := [.int q11.1, .int q12.1]) (st := []) o ho rfl (ct_Is_takeBid X o ho q11.1 q12.1 q12.2) (Nat.le_trans (Nat.le_of_ble_eq_true rfl) hF0) rfl rfl (Nat.le_of_ble_eq_true rfl) dk_Is_passMonthByDraws_26 (fun q13 => ?_)
    refine rn_pop (pc := 29) dk_Is_passMonthByDraws_29 rfl ?_
    refine rn_goto (pc := 30) 65 dk_Is_passMonthByDraws_30 (by decide) ?_
    refine rn_aload_n (pc := 65) 0 dk_Is_passMonthByDraws_65 rfl rfl (nm_rok_isl ho) ?_
    refine cl_Is_137 (pc := 66) (As := []) (st := []) o ho rfl (ct_Is_passMonth X o ho q13.2) (Nat.le_trans (Nat.le_of_ble_eq_true rfl) hF0) rfl rfl (Nat.le_of_ble_eq_true rfl) dk_Is_passMonthByDraws_66 (fun q14 => ?_)
    refine rn_pop (pc := 69) dk_Is_passMonthByDraws_69 rfl ?_
    exact rn_vret rfl dk_Is_passMonthByDraws_70
theorem dk_Nm_years_0 : decode mi_Nm_years.2.1 0 = .ok (.aload_n 0, 1) := by decide +kernel
theorem dk_Nm_years_1 : decode mi_Nm_years.2.1 1 = .ok (.getfield 18, 3) := by decide +kernel
theorem dk_Nm_years_4 : decode mi_Nm_years.2.1 4 = .ok (.getfield 319, 3) := by decide +kernel
theorem dk_Nm_years_7 : decode mi_Nm_years.2.1 7 = .ok (.ifCond .ne 10, 3) := by decide +kernel
theorem dk_Nm_years_10 : decode mi_Nm_years.2.1 10 = .ok (.aload_n 0, 1) := by decide +kernel
theorem dk_Nm_years_11 : decode mi_Nm_years.2.1 11 = .ok (.bipush (-5), 2) := by decide +kernel
theorem dk_Nm_years_13 : decode mi_Nm_years.2.1 13 = .ok (.invokevirtual 73, 3) := by decide +kernel
theorem dk_Nm_years_16 : decode mi_Nm_years.2.1 16 = .ok (.ireturn, 1) := by decide +kernel
theorem dk_Nm_years_17 : decode mi_Nm_years.2.1 17 = .ok (.iload_n 1, 1) := by decide +kernel
theorem dk_Nm_years_18 : decode mi_Nm_years.2.1 18 = .ok (.iconst 1, 1) := by decide +kernel
theorem dk_Nm_years_19 : decode mi_Nm_years.2.1 19 = .ok (.sipush 240, 3) := by decide +kernel
theorem dk_Nm_years_22 : decode mi_Nm_years.2.1 22 = .ok (.invokestatic 144, 3) := by decide +kernel
theorem dk_Nm_years_25 : decode mi_Nm_years.2.1 25 = .ok (.ifCond .ne 10, 3) := by decide +kernel
theorem dk_Nm_years_28 : decode mi_Nm_years.2.1 28 = .ok (.aload_n 0, 1) := by decide +kernel
theorem dk_Nm_years_29 : decode mi_Nm_years.2.1 29 = .ok (.bipush (-6), 2) := by decide +kernel
theorem dk_Nm_years_31 : decode mi_Nm_years.2.1 31 = .ok (.invokevirtual 73, 3) := by decide +kernel
theorem dk_Nm_years_34 : decode mi_Nm_years.2.1 34 = .ok (.ireturn, 1) := by decide +kernel
theorem dk_Nm_years_35 : decode mi_Nm_years.2.1 35 = .ok (.iconst 0, 1) := by decide +kernel
theorem dk_Nm_years_36 : decode mi_Nm_years.2.1 36 = .ok (.istore_n 2, 1) := by decide +kernel
theorem dk_Nm_years_37 : decode mi_Nm_years.2.1 37 = .ok (.iconst 0, 1) := by decide +kernel
theorem dk_Nm_years_38 : decode mi_Nm_years.2.1 38 = .ok (.istore_n 3, 1) := by decide +kernel
theorem dk_Nm_years_39 : decode mi_Nm_years.2.1 39 = .ok (.iload_n 3, 1) := by decide +kernel
theorem dk_Nm_years_40 : decode mi_Nm_years.2.1 40 = .ok (.iload_n 1, 1) := by decide +kernel
theorem dk_Nm_years_41 : decode mi_Nm_years.2.1 41 = .ok (.if_icmp .ge 29, 3) := by decide +kernel
theorem dk_Nm_years_44 : decode mi_Nm_years.2.1 44 = .ok (.aload_n 0, 1) := by decide +kernel
theorem dk_Nm_years_45 : decode mi_Nm_years.2.1 45 = .ok (.getfield 18, 3) := by decide +kernel
theorem dk_Nm_years_48 : decode mi_Nm_years.2.1 48 = .ok (.invokevirtual 322, 3) := by decide +kernel
theorem dk_Nm_years_51 : decode mi_Nm_years.2.1 51 = .ok (.aload_n 0, 1) := by decide +kernel
theorem dk_Nm_years_52 : decode mi_Nm_years.2.1 52 = .ok (.getfield 18, 3) := by decide +kernel
theorem dk_Nm_years_55 : decode mi_Nm_years.2.1 55 = .ok (.invokevirtual 190, 3) := by decide +kernel
theorem dk_Nm_years_58 : decode mi_Nm_years.2.1 58 = .ok (.ifCond .eq 6, 3) := by decide +kernel
theorem dk_Nm_years_61 : decode mi_Nm_years.2.1 61 = .ok (.iinc 2 1, 3) := by decide +kernel
theorem dk_Nm_years_64 : decode mi_Nm_years.2.1 64 = .ok (.iinc 3 1, 3) := by decide +kernel
theorem dk_Nm_years_67 : decode mi_Nm_years.2.1 67 = .ok (.goto (-28), 3) := by decide +kernel
theorem dk_Nm_years_70 : decode mi_Nm_years.2.1 70 = .ok (.iload_n 2, 1) := by decide +kernel
theorem dk_Nm_years_71 : decode mi_Nm_years.2.1 71 = .ok (.ireturn, 1) := by decide +kernel
def Nm_years_l39 (k_70 : Int32 → nm_St → Option (Int32 × nm_St)) : Nat → Int32 → Int32 → Int32 → nm_St → Option (Int32 × nm_St)
  | 0, _, _, _, _ => none
  | n + 1, x1, x2, x3, σ =>
    (if x1 ≤ x3 then
      k_70 x2 σ
    else
      ((Is_passMonthByDraws 2 σ).bind fun q5 =>
      ((Is_isMadeAbroad 2 q5.2).bind fun q6 =>
      (if q6.1 = 0 then
        (Nm_years_l39 k_70 n) x1 x2 (x3 + (1 : Int32)) q6.2
      else
        (Nm_years_l39 k_70 n) x1 (x2 + (1 : Int32)) (x3 + (1 : Int32)) q6.2))))
set_option maxRecDepth 100000 in
set_option maxHeartbeats 4000000 in
theorem r_Nm_years_l39 (X : nm_X) (F : nm_F) (hF0 : 5 ≤ nm_d F) (k_70 : Int32 → nm_St → Option (Int32 × nm_St)) (hk_70 : ∀ (x2 : Int32) (σ : nm_St), Rn X mi_Nm_years F (nm_Qf X F nm_wI) [(2, .int x2)] [] 70 σ (k_70 x2 σ)) : ∀ (n : Nat) (x1 : Int32) (x2 : Int32) (x3 : Int32) (σ : nm_St), Rn X mi_Nm_years F (nm_Qf X F nm_wI) [(0, .ref 0), (1, .int x1), (2, .int x2), (3, .int x3)] [] 39 σ (Nm_years_l39 k_70 n x1 x2 x3 σ) := by
  intro n
  induction n with
  | zero =>
    intro x1 x2 x3 σ
    exact rn_none
  | succ n ih =>
    intro x1 x2 x3 σ
    unfold Nm_years_l39
    refine rn_iload_n (pc := 39) 3 dk_Nm_years_39 rfl rfl ?_
    refine rn_iload_n (pc := 40) 1 dk_Nm_years_40 rfl rfl ?_
    refine rn_icmp_ge (pc := 41) 70 dk_Nm_years_41 (by decide) (fun c4 => ?_) (fun c4 => ?_)
    · exact rn_sub (by rfl) (hk_70 x2 σ)
    · refine rn_aload_n (pc := 44) 0 dk_Nm_years_44 rfl rfl rfl ?_
      refine gf_Nm_18 (pc := 45) rfl dk_Nm_years_45 ?_
      refine cl_Nm_322 (pc := 48) (As := []) (st := []) 2 rfl rfl (ct_Is_passMonthByDraws X 2 rfl σ) (Nat.le_trans (Nat.le_of_ble_eq_true rfl) hF0) rfl rfl (Nat.le_of_ble_eq_true rfl) dk_Nm_years_48 (fun q5 => ?_)
      refine rn_aload_n (pc := 51) 0 dk_Nm_years_51 rfl rfl rfl ?_
      refine gf_Nm_18 (pc := 52) rfl dk_Nm_years_52 ?_
      refine cl_Nm_190 (pc := 55) (As := []) (st := []) 2 rfl rfl (ct_Is_isMadeAbroad X 2 rfl q5.2) (Nat.le_trans (Nat.le_of_ble_eq_true rfl) hF0) rfl rfl (Nat.le_of_ble_eq_true rfl) dk_Nm_years_55 (fun q6 => ?_)
      refine rn_if_eq (pc := 58) 64 dk_Nm_years_58 (by decide) (fun c7 => ?_) (fun c7 => ?_)
      · refine rn_iinc (pc := 64) (1 : Int32) dk_Nm_years_64 cn_i_1 rfl rfl rfl ?_
        refine rn_goto (pc := 67) 39 dk_Nm_years_67 (by decide) ?_
        exact rn_sub (by rfl) (ih x1 x2 (x3 + (1 : Int32)) q6.2)
      · refine rn_iinc (pc := 61) (1 : Int32) dk_Nm_years_61 cn_i_1 rfl rfl rfl ?_
        refine rn_iinc (pc := 64) (1 : Int32) dk_Nm_years_64 cn_i_1 rfl rfl rfl ?_
        refine rn_goto (pc := 67) 39 dk_Nm_years_67 (by decide) ?_
        exact rn_sub (by rfl) (ih x1 (x2 + (1 : Int32)) (x3 + (1 : Int32)) q6.2)
def Nm_years (p1 : Int32) (σ : nm_St) : Option (Int32 × nm_St) :=
  (if (σ.1 2 6) = 0 then
    ((Nm_refuse (-5 : Int32) σ).bind fun q11 =>
    some (q11.1, q11.2))
  else
    ((Nm_isWithin p1 (1 : Int32) (240 : Int32) σ).bind fun q2 =>
    (if q2.1 = 0 then
      ((Nm_refuse (-6 : Int32) q2.2).bind fun q10 =>
      some (q10.1, q10.2))
    else
      Nm_years_l39 (fun (e9 : Int32) (s8 : nm_St) =>
        some (e9, s8)) 400 p1 (0 : Int32) (0 : Int32) q2.2)))
set_option maxRecDepth 100000 in
set_option maxHeartbeats 4000000 in
theorem ct_Nm_years (X : nm_X) (p1 : Int32) (σ : nm_St) : Ct X mi_Nm_years 5 nm_wI [.ref 0, .int p1] σ (Nm_years p1 σ) := by
  refine Ct.of (by decide +kernel) rfl (fun F hF0 => ?_)
  unfold Nm_years
  refine rn_aload_n (pc := 0) 0 dk_Nm_years_0 rfl rfl rfl ?_
  refine gf_Nm_18 (pc := 1) rfl dk_Nm_years_1 ?_
  refine gf_Nm_319 (pc := 4) 2 rfl rfl dk_Nm_years_4 ?_
  refine rn_if_ne (pc := 7) 17 dk_Nm_years_7 (by decide) (fun c1 => ?_) (fun c1 => ?_)
  · refine rn_iload_n (pc := 17) 1 dk_Nm_years_17 rfl rfl ?_
    refine rn_iconst (pc := 18) (1 : Int32) dk_Nm_years_18 cn_i_1 ?_
    refine rn_sipush (pc := 19) (240 : Int32) dk_Nm_years_19 cn_s_240 ?_
    refine cl_Nm_144 (pc := 22) (As := [.int p1, .int (1 : Int32), .int (240 : Int32)]) (st := []) rfl (ct_Nm_isWithin X p1 (1 : Int32) (240 : Int32) σ) (Nat.le_trans (Nat.le_of_ble_eq_true rfl) hF0) rfl rfl (Nat.le_of_ble_eq_true rfl) dk_Nm_years_22 (fun q2 => ?_)
    refine rn_if_ne (pc := 25) 35 dk_Nm_years_25 (by decide) (fun c3 => ?_) (fun c3 => ?_)
    · refine rn_iconst (pc := 35) (0 : Int32) dk_Nm_years_35 cn_i_0 ?_
      refine rn_istore_n (pc := 36) 2 dk_Nm_years_36 rfl rfl rfl ?_
      refine rn_iconst (pc := 37) (0 : Int32) dk_Nm_years_37 cn_i_0 ?_
      refine rn_istore_n (pc := 38) 3 dk_Nm_years_38 rfl rfl rfl ?_
      refine rn_sub (by rfl) (r_Nm_years_l39 X F hF0 _ (fun e9 s8 => ?_) 400 p1 (0 : Int32) (0 : Int32) q2.2)
      refine rn_iload_n (pc := 70) 2 dk_Nm_years_70 rfl rfl ?_
      exact rn_iret rfl dk_Nm_years_71
    · refine rn_aload_n (pc := 28) 0 dk_Nm_years_28 rfl rfl rfl ?_
      refine rn_bipush (pc := 29) (-6 : Int32) dk_Nm_years_29 cn_b_m6 ?_
      refine cl_Nm_73 (pc := 31) (As := [.int (-6 : Int32)]) (st := []) rfl (ct_Nm_refuse X (-6 : Int32) q2.2) (Nat.le_trans (Nat.le_of_ble_eq_true rfl) hF0) rfl rfl (Nat.le_of_ble_eq_true rfl) dk_Nm_years_31 (fun q10 => ?_)
      exact rn_iret rfl dk_Nm_years_34
  · refine rn_aload_n (pc := 10) 0 dk_Nm_years_10 rfl rfl rfl ?_
    refine rn_bipush (pc := 11) (-5 : Int32) dk_Nm_years_11 cn_b_m5 ?_
    refine cl_Nm_73 (pc := 13) (As := [.int (-5 : Int32)]) (st := []) rfl (ct_Nm_refuse X (-5 : Int32) σ) (Nat.le_trans (Nat.le_of_ble_eq_true rfl) hF0) rfl rfl (Nat.le_of_ble_eq_true rfl) dk_Nm_years_13 (fun q11 => ?_)
    exact rn_iret rfl dk_Nm_years_16
theorem dk_Nm_seed_0 : decode mi_Nm_seed.2.1 0 = .ok (.aload_n 0, 1) := by decide +kernel
theorem dk_Nm_seed_1 : decode mi_Nm_seed.2.1 1 = .ok (.getfield 18, 3) := by decide +kernel
theorem dk_Nm_seed_4 : decode mi_Nm_seed.2.1 4 = .ok (.getfield 325, 3) := by decide +kernel
theorem dk_Nm_seed_7 : decode mi_Nm_seed.2.1 7 = .ok (.istore_n 2, 1) := by decide +kernel
theorem dk_Nm_seed_8 : decode mi_Nm_seed.2.1 8 = .ok (.aload_n 0, 1) := by decide +kernel
theorem dk_Nm_seed_9 : decode mi_Nm_seed.2.1 9 = .ok (.getfield 18, 3) := by decide +kernel
theorem dk_Nm_seed_12 : decode mi_Nm_seed.2.1 12 = .ok (.iload_n 1, 1) := by decide +kernel
theorem dk_Nm_seed_13 : decode mi_Nm_seed.2.1 13 = .ok (.putfield 325, 3) := by decide +kernel
theorem dk_Nm_seed_16 : decode mi_Nm_seed.2.1 16 = .ok (.iload_n 2, 1) := by decide +kernel
theorem dk_Nm_seed_17 : decode mi_Nm_seed.2.1 17 = .ok (.ireturn, 1) := by decide +kernel
def Nm_seed (p1 : Int32) (σ : nm_St) : Option (Int32 × nm_St) :=
  (nm_let (nm_pI σ 2 11 p1) fun s1 =>
  some ((σ.1 2 11), s1))
set_option maxRecDepth 100000 in
set_option maxHeartbeats 4000000 in
theorem ct_Nm_seed (X : nm_X) (p1 : Int32) (σ : nm_St) : Ct X mi_Nm_seed 0 nm_wI [.ref 0, .int p1] σ (Nm_seed p1 σ) := by
  refine Ct.of (by decide +kernel) rfl (fun F hF0 => ?_)
  unfold Nm_seed
  refine rn_aload_n (pc := 0) 0 dk_Nm_seed_0 rfl rfl rfl ?_
  refine gf_Nm_18 (pc := 1) rfl dk_Nm_seed_1 ?_
  refine gf_Nm_325 (pc := 4) 2 rfl rfl dk_Nm_seed_4 ?_
  refine rn_istore_n (pc := 7) 2 dk_Nm_seed_7 rfl rfl rfl ?_
  refine rn_aload_n (pc := 8) 0 dk_Nm_seed_8 rfl rfl rfl ?_
  refine gf_Nm_18 (pc := 9) rfl dk_Nm_seed_9 ?_
  refine rn_iload_n (pc := 12) 1 dk_Nm_seed_12 rfl rfl ?_
  refine pf_Nm_325 (pc := 13) 2 rfl rfl dk_Nm_seed_13 ?_
  refine rn_lets (fun s1 => ?_)
  refine rn_iload_n (pc := 16) 2 dk_Nm_seed_16 rfl rfl ?_
  exact rn_iret rfl dk_Nm_seed_17
theorem dk_Is_aOf_0 : decode mi_Is_aOf.2.1 0 = .ok (.aload_n 0, 1) := by decide +kernel
theorem dk_Is_aOf_1 : decode mi_Is_aOf.2.1 1 = .ok (.iload_n 1, 1) := by decide +kernel
theorem dk_Is_aOf_2 : decode mi_Is_aOf.2.1 2 = .ok (.invokevirtual 59, 3) := by decide +kernel
theorem dk_Is_aOf_5 : decode mi_Is_aOf.2.1 5 = .ok (.ifCond .eq 12, 3) := by decide +kernel
theorem dk_Is_aOf_8 : decode mi_Is_aOf.2.1 8 = .ok (.aload_n 0, 1) := by decide +kernel
theorem dk_Is_aOf_9 : decode mi_Is_aOf.2.1 9 = .ok (.getfield 15, 3) := by decide +kernel
theorem dk_Is_aOf_12 : decode mi_Is_aOf.2.1 12 = .ok (.iload_n 1, 1) := by decide +kernel
theorem dk_Is_aOf_13 : decode mi_Is_aOf.2.1 13 = .ok (.iaload, 1) := by decide +kernel
theorem dk_Is_aOf_14 : decode mi_Is_aOf.2.1 14 = .ok (.goto 4, 3) := by decide +kernel
theorem dk_Is_aOf_17 : decode mi_Is_aOf.2.1 17 = .ok (.iconst 0, 1) := by decide +kernel
theorem dk_Is_aOf_18 : decode mi_Is_aOf.2.1 18 = .ok (.ireturn, 1) := by decide +kernel
def Is_aOf (o : Nat) (p1 : Int32) (σ : nm_St) : Option (Int32 × nm_St) :=
  ((Is_isMaker o p1 σ).bind fun q1 =>
  (if q1.1 = 0 then
    some ((0 : Int32), q1.2)
  else
    (nm_g (nm_in p1 8) (
    some ((q1.2.1 (o + 2) p1.toNatClampNeg), q1.2)))))
set_option maxRecDepth 100000 in
set_option maxHeartbeats 4000000 in
theorem ct_Is_aOf (X : nm_X) (o : Nat) (ho : nm_isl o = true) (p1 : Int32) (σ : nm_St) : Ct X mi_Is_aOf 1 nm_wI [.ref o, .int p1] σ (Is_aOf o p1 σ) := by
  refine Ct.of (by decide +kernel) rfl (fun F hF0 => ?_)
  unfold Is_aOf
  refine rn_aload_n (pc := 0) 0 dk_Is_aOf_0 rfl rfl (nm_rok_isl ho) ?_
  refine rn_iload_n (pc := 1) 1 dk_Is_aOf_1 rfl rfl ?_
  refine cl_Is_59 (pc := 2) (As := [.int p1]) (st := []) o ho rfl (ct_Is_isMaker X o ho p1 σ) (Nat.le_trans (Nat.le_of_ble_eq_true rfl) hF0) rfl rfl (Nat.le_of_ble_eq_true rfl) dk_Is_aOf_2 (fun q1 => ?_)
  refine rn_if_eq (pc := 5) 17 dk_Is_aOf_5 (by decide) (fun c2 => ?_) (fun c2 => ?_)
  · refine rn_iconst (pc := 17) (0 : Int32) dk_Is_aOf_17 cn_i_0 ?_
    exact rn_iret rfl dk_Is_aOf_18
  · refine rn_aload_n (pc := 8) 0 dk_Is_aOf_8 rfl rfl (nm_rok_isl ho) ?_
    refine gf_Is_15 (pc := 9) o ho rfl dk_Is_aOf_9 ?_
    refine rn_iload_n (pc := 12) 1 dk_Is_aOf_12 rfl rfl ?_
    refine rn_iaload (pc := 13) (nm_i2 ho) dk_Is_aOf_13 (fun g3 => ?_)
    refine rn_goto (pc := 14) 18 dk_Is_aOf_14 (by decide) ?_
    exact rn_iret rfl dk_Is_aOf_18
theorem dk_Mo_answerOf_0 : decode mi_Mo_answerOf.2.1 0 = .ok (.iload_n 1, 1) := by decide +kernel
theorem dk_Mo_answerOf_1 : decode mi_Mo_answerOf.2.1 1 = .ok (.lookupswitch 256 #[(10, 99), (11, 106), (12, 121), (20, 152), (30, 167), (40, 179), (50, 191), (51, 202), (60, 217), (70, 229), (71, 241)], 99) := by decide +kernel
theorem dk_Mo_answerOf_100 : decode mi_Mo_answerOf.2.1 100 = .ok (.iload_n 3, 1) := by decide +kernel
theorem dk_Mo_answerOf_101 : decode mi_Mo_answerOf.2.1 101 = .ok (.aload_n 0, 1) := by decide +kernel
theorem dk_Mo_answerOf_102 : decode mi_Mo_answerOf.2.1 102 = .ok (.getfield 19, 3) := by decide +kernel
theorem dk_Mo_answerOf_105 : decode mi_Mo_answerOf.2.1 105 = .ok (.iadd, 1) := by decide +kernel
theorem dk_Mo_answerOf_106 : decode mi_Mo_answerOf.2.1 106 = .ok (.ireturn, 1) := by decide +kernel
theorem dk_Mo_answerOf_107 : decode mi_Mo_answerOf.2.1 107 = .ok (.aload_n 0, 1) := by decide +kernel
theorem dk_Mo_answerOf_108 : decode mi_Mo_answerOf.2.1 108 = .ok (.aload_n 0, 1) := by decide +kernel
theorem dk_Mo_answerOf_109 : decode mi_Mo_answerOf.2.1 109 = .ok (.getfield 22, 3) := by decide +kernel
theorem dk_Mo_answerOf_112 : decode mi_Mo_answerOf.2.1 112 = .ok (.iconst 0, 1) := by decide +kernel
theorem dk_Mo_answerOf_113 : decode mi_Mo_answerOf.2.1 113 = .ok (.iload_n 3, 1) := by decide +kernel
theorem dk_Mo_answerOf_114 : decode mi_Mo_answerOf.2.1 114 = .ok (.iload 4, 2) := by decide +kernel
theorem dk_Mo_answerOf_116 : decode mi_Mo_answerOf.2.1 116 = .ok (.invokevirtual 41, 3) := by decide +kernel
theorem dk_Mo_answerOf_119 : decode mi_Mo_answerOf.2.1 119 = .ok (.iconst 2, 1) := by decide +kernel
theorem dk_Mo_answerOf_120 : decode mi_Mo_answerOf.2.1 120 = .ok (.imul, 1) := by decide +kernel
theorem dk_Mo_answerOf_121 : decode mi_Mo_answerOf.2.1 121 = .ok (.ireturn, 1) := by decide +kernel
theorem dk_Mo_answerOf_122 : decode mi_Mo_answerOf.2.1 122 = .ok (.aload_n 0, 1) := by decide +kernel
theorem dk_Mo_answerOf_123 : decode mi_Mo_answerOf.2.1 123 = .ok (.aload_n 0, 1) := by decide +kernel
theorem dk_Mo_answerOf_124 : decode mi_Mo_answerOf.2.1 124 = .ok (.getfield 22, 3) := by decide +kernel
theorem dk_Mo_answerOf_127 : decode mi_Mo_answerOf.2.1 127 = .ok (.iconst 1, 1) := by decide +kernel
theorem dk_Mo_answerOf_128 : decode mi_Mo_answerOf.2.1 128 = .ok (.iload_n 3, 1) := by decide +kernel
theorem dk_Mo_answerOf_129 : decode mi_Mo_answerOf.2.1 129 = .ok (.iload 4, 2) := by decide +kernel
theorem dk_Mo_answerOf_131 : decode mi_Mo_answerOf.2.1 131 = .ok (.invokevirtual 41, 3) := by decide +kernel
theorem dk_Mo_answerOf_134 : decode mi_Mo_answerOf.2.1 134 = .ok (.aload_n 0, 1) := by decide +kernel
theorem dk_Mo_answerOf_135 : decode mi_Mo_answerOf.2.1 135 = .ok (.aload_n 0, 1) := by decide +kernel
theorem dk_Mo_answerOf_136 : decode mi_Mo_answerOf.2.1 136 = .ok (.getfield 22, 3) := by decide +kernel
theorem dk_Mo_answerOf_139 : decode mi_Mo_answerOf.2.1 139 = .ok (.iconst 0, 1) := by decide +kernel
theorem dk_Mo_answerOf_140 : decode mi_Mo_answerOf.2.1 140 = .ok (.iload_n 3, 1) := by decide +kernel
theorem dk_Mo_answerOf_141 : decode mi_Mo_answerOf.2.1 141 = .ok (.aload_n 0, 1) := by decide +kernel
theorem dk_Mo_answerOf_142 : decode mi_Mo_answerOf.2.1 142 = .ok (.getfield 25, 3) := by decide +kernel
theorem dk_Mo_answerOf_145 : decode mi_Mo_answerOf.2.1 145 = .ok (.isub, 1) := by decide +kernel
theorem dk_Mo_answerOf_146 : decode mi_Mo_answerOf.2.1 146 = .ok (.iload 4, 2) := by decide +kernel
theorem dk_Mo_answerOf_148 : decode mi_Mo_answerOf.2.1 148 = .ok (.invokevirtual 41, 3) := by decide +kernel
theorem dk_Mo_answerOf_151 : decode mi_Mo_answerOf.2.1 151 = .ok (.ixor, 1) := by decide +kernel
theorem dk_Mo_answerOf_152 : decode mi_Mo_answerOf.2.1 152 = .ok (.ireturn, 1) := by decide +kernel
theorem dk_Mo_answerOf_153 : decode mi_Mo_answerOf.2.1 153 = .ok (.aload_n 0, 1) := by decide +kernel
theorem dk_Mo_answerOf_154 : decode mi_Mo_answerOf.2.1 154 = .ok (.iload_n 2, 1) := by decide +kernel
theorem dk_Mo_answerOf_155 : decode mi_Mo_answerOf.2.1 155 = .ok (.iconst 0, 1) := by decide +kernel
theorem dk_Mo_answerOf_156 : decode mi_Mo_answerOf.2.1 156 = .ok (.iload_n 3, 1) := by decide +kernel
theorem dk_Mo_answerOf_157 : decode mi_Mo_answerOf.2.1 157 = .ok (.iload 4, 2) := by decide +kernel
theorem dk_Mo_answerOf_159 : decode mi_Mo_answerOf.2.1 159 = .ok (.invokevirtual 41, 3) := by decide +kernel
theorem dk_Mo_answerOf_162 : decode mi_Mo_answerOf.2.1 162 = .ok (.aload_n 0, 1) := by decide +kernel
theorem dk_Mo_answerOf_163 : decode mi_Mo_answerOf.2.1 163 = .ok (.getfield 25, 3) := by decide +kernel
theorem dk_Mo_answerOf_166 : decode mi_Mo_answerOf.2.1 166 = .ok (.iadd, 1) := by decide +kernel
theorem dk_Mo_answerOf_167 : decode mi_Mo_answerOf.2.1 167 = .ok (.ireturn, 1) := by decide +kernel
theorem dk_Mo_answerOf_168 : decode mi_Mo_answerOf.2.1 168 = .ok (.aload_n 0, 1) := by decide +kernel
theorem dk_Mo_answerOf_169 : decode mi_Mo_answerOf.2.1 169 = .ok (.iload_n 2, 1) := by decide +kernel
theorem dk_Mo_answerOf_170 : decode mi_Mo_answerOf.2.1 170 = .ok (.iconst 1, 1) := by decide +kernel
theorem dk_Mo_answerOf_171 : decode mi_Mo_answerOf.2.1 171 = .ok (.iload_n 3, 1) := by decide +kernel
theorem dk_Mo_answerOf_172 : decode mi_Mo_answerOf.2.1 172 = .ok (.iload 4, 2) := by decide +kernel
theorem dk_Mo_answerOf_174 : decode mi_Mo_answerOf.2.1 174 = .ok (.invokevirtual 41, 3) := by decide +kernel
theorem dk_Mo_answerOf_177 : decode mi_Mo_answerOf.2.1 177 = .ok (.iconst 3, 1) := by decide +kernel
theorem dk_Mo_answerOf_178 : decode mi_Mo_answerOf.2.1 178 = .ok (.imul, 1) := by decide +kernel
theorem dk_Mo_answerOf_179 : decode mi_Mo_answerOf.2.1 179 = .ok (.ireturn, 1) := by decide +kernel
theorem dk_Mo_answerOf_180 : decode mi_Mo_answerOf.2.1 180 = .ok (.aload_n 0, 1) := by decide +kernel
theorem dk_Mo_answerOf_181 : decode mi_Mo_answerOf.2.1 181 = .ok (.iload_n 2, 1) := by decide +kernel
theorem dk_Mo_answerOf_182 : decode mi_Mo_answerOf.2.1 182 = .ok (.iconst 1, 1) := by decide +kernel
theorem dk_Mo_answerOf_183 : decode mi_Mo_answerOf.2.1 183 = .ok (.iload_n 3, 1) := by decide +kernel
theorem dk_Mo_answerOf_184 : decode mi_Mo_answerOf.2.1 184 = .ok (.iconst 1, 1) := by decide +kernel
theorem dk_Mo_answerOf_185 : decode mi_Mo_answerOf.2.1 185 = .ok (.iadd, 1) := by decide +kernel
theorem dk_Mo_answerOf_186 : decode mi_Mo_answerOf.2.1 186 = .ok (.iload 4, 2) := by decide +kernel
theorem dk_Mo_answerOf_188 : decode mi_Mo_answerOf.2.1 188 = .ok (.invokevirtual 41, 3) := by decide +kernel
theorem dk_Mo_answerOf_191 : decode mi_Mo_answerOf.2.1 191 = .ok (.ireturn, 1) := by decide +kernel
theorem dk_Mo_answerOf_192 : decode mi_Mo_answerOf.2.1 192 = .ok (.aload_n 0, 1) := by decide +kernel
theorem dk_Mo_answerOf_193 : decode mi_Mo_answerOf.2.1 193 = .ok (.iload_n 2, 1) := by decide +kernel
theorem dk_Mo_answerOf_194 : decode mi_Mo_answerOf.2.1 194 = .ok (.iconst 2, 1) := by decide +kernel
theorem dk_Mo_answerOf_195 : decode mi_Mo_answerOf.2.1 195 = .ok (.iload_n 3, 1) := by decide +kernel
theorem dk_Mo_answerOf_196 : decode mi_Mo_answerOf.2.1 196 = .ok (.iload 4, 2) := by decide +kernel
theorem dk_Mo_answerOf_198 : decode mi_Mo_answerOf.2.1 198 = .ok (.invokevirtual 41, 3) := by decide +kernel
theorem dk_Mo_answerOf_201 : decode mi_Mo_answerOf.2.1 201 = .ok (.ineg, 1) := by decide +kernel
theorem dk_Mo_answerOf_202 : decode mi_Mo_answerOf.2.1 202 = .ok (.ireturn, 1) := by decide +kernel
theorem dk_Mo_answerOf_203 : decode mi_Mo_answerOf.2.1 203 = .ok (.aload_n 0, 1) := by decide +kernel
theorem dk_Mo_answerOf_204 : decode mi_Mo_answerOf.2.1 204 = .ok (.iload_n 2, 1) := by decide +kernel
theorem dk_Mo_answerOf_205 : decode mi_Mo_answerOf.2.1 205 = .ok (.iconst 0, 1) := by decide +kernel
theorem dk_Mo_answerOf_206 : decode mi_Mo_answerOf.2.1 206 = .ok (.iload_n 3, 1) := by decide +kernel
theorem dk_Mo_answerOf_207 : decode mi_Mo_answerOf.2.1 207 = .ok (.iload 4, 2) := by decide +kernel
theorem dk_Mo_answerOf_209 : decode mi_Mo_answerOf.2.1 209 = .ok (.invokevirtual 41, 3) := by decide +kernel
theorem dk_Mo_answerOf_212 : decode mi_Mo_answerOf.2.1 212 = .ok (.aload_n 0, 1) := by decide +kernel
theorem dk_Mo_answerOf_213 : decode mi_Mo_answerOf.2.1 213 = .ok (.getfield 19, 3) := by decide +kernel
theorem dk_Mo_answerOf_216 : decode mi_Mo_answerOf.2.1 216 = .ok (.isub, 1) := by decide +kernel
theorem dk_Mo_answerOf_217 : decode mi_Mo_answerOf.2.1 217 = .ok (.ireturn, 1) := by decide +kernel
theorem dk_Mo_answerOf_218 : decode mi_Mo_answerOf.2.1 218 = .ok (.aload_n 0, 1) := by decide +kernel
theorem dk_Mo_answerOf_219 : decode mi_Mo_answerOf.2.1 219 = .ok (.iload_n 2, 1) := by decide +kernel
theorem dk_Mo_answerOf_220 : decode mi_Mo_answerOf.2.1 220 = .ok (.iconst 2, 1) := by decide +kernel
theorem dk_Mo_answerOf_221 : decode mi_Mo_answerOf.2.1 221 = .ok (.iload_n 3, 1) := by decide +kernel
theorem dk_Mo_answerOf_222 : decode mi_Mo_answerOf.2.1 222 = .ok (.iload 4, 2) := by decide +kernel
theorem dk_Mo_answerOf_224 : decode mi_Mo_answerOf.2.1 224 = .ok (.invokevirtual 41, 3) := by decide +kernel
theorem dk_Mo_answerOf_227 : decode mi_Mo_answerOf.2.1 227 = .ok (.iconst 5, 1) := by decide +kernel
theorem dk_Mo_answerOf_228 : decode mi_Mo_answerOf.2.1 228 = .ok (.ixor, 1) := by decide +kernel
theorem dk_Mo_answerOf_229 : decode mi_Mo_answerOf.2.1 229 = .ok (.ireturn, 1) := by decide +kernel
theorem dk_Mo_answerOf_230 : decode mi_Mo_answerOf.2.1 230 = .ok (.aload_n 0, 1) := by decide +kernel
theorem dk_Mo_answerOf_231 : decode mi_Mo_answerOf.2.1 231 = .ok (.iload_n 2, 1) := by decide +kernel
theorem dk_Mo_answerOf_232 : decode mi_Mo_answerOf.2.1 232 = .ok (.iconst 0, 1) := by decide +kernel
theorem dk_Mo_answerOf_233 : decode mi_Mo_answerOf.2.1 233 = .ok (.iload_n 3, 1) := by decide +kernel
theorem dk_Mo_answerOf_234 : decode mi_Mo_answerOf.2.1 234 = .ok (.iload 4, 2) := by decide +kernel
theorem dk_Mo_answerOf_236 : decode mi_Mo_answerOf.2.1 236 = .ok (.invokevirtual 41, 3) := by decide +kernel
theorem dk_Mo_answerOf_239 : decode mi_Mo_answerOf.2.1 239 = .ok (.iconst 2, 1) := by decide +kernel
theorem dk_Mo_answerOf_240 : decode mi_Mo_answerOf.2.1 240 = .ok (.imul, 1) := by decide +kernel
theorem dk_Mo_answerOf_241 : decode mi_Mo_answerOf.2.1 241 = .ok (.ireturn, 1) := by decide +kernel
theorem dk_Mo_answerOf_242 : decode mi_Mo_answerOf.2.1 242 = .ok (.aload_n 0, 1) := by decide +kernel
theorem dk_Mo_answerOf_243 : decode mi_Mo_answerOf.2.1 243 = .ok (.iload_n 2, 1) := by decide +kernel
theorem dk_Mo_answerOf_244 : decode mi_Mo_answerOf.2.1 244 = .ok (.iconst 1, 1) := by decide +kernel
theorem dk_Mo_answerOf_245 : decode mi_Mo_answerOf.2.1 245 = .ok (.iload_n 3, 1) := by decide +kernel
theorem dk_Mo_answerOf_246 : decode mi_Mo_answerOf.2.1 246 = .ok (.aload_n 0, 1) := by decide +kernel
theorem dk_Mo_answerOf_247 : decode mi_Mo_answerOf.2.1 247 = .ok (.getfield 25, 3) := by decide +kernel
theorem dk_Mo_answerOf_250 : decode mi_Mo_answerOf.2.1 250 = .ok (.isub, 1) := by decide +kernel
theorem dk_Mo_answerOf_251 : decode mi_Mo_answerOf.2.1 251 = .ok (.iload 4, 2) := by decide +kernel
theorem dk_Mo_answerOf_253 : decode mi_Mo_answerOf.2.1 253 = .ok (.invokevirtual 41, 3) := by decide +kernel
theorem dk_Mo_answerOf_256 : decode mi_Mo_answerOf.2.1 256 = .ok (.ireturn, 1) := by decide +kernel
theorem dk_Mo_answerOf_257 : decode mi_Mo_answerOf.2.1 257 = .ok (.iconst 0, 1) := by decide +kernel
theorem dk_Mo_answerOf_258 : decode mi_Mo_answerOf.2.1 258 = .ok (.ireturn, 1) := by decide +kernel
def Mo_answerOf (rec : Int32 → Int32 → Int32 → Int32 → nm_St → Option (Int32 × nm_St)) (p1 : Int32) (p2 : Int32) (p3 : Int32) (p4 : Int32) (σ : nm_St) : Option (Int32 × nm_St) :=
  (if p1 = (10 : Int32) then
    some ((p3 + (σ.1 51 2)), σ)
  else
  (if p1 = (11 : Int32) then
    ((rec (σ.1 51 3) (0 : Int32) p3 p4 σ).bind fun q2 =>
    some ((q2.1 * (2 : Int32)), q2.2))
  else
  (if p1 = (12 : Int32) then
    ((rec (σ.1 51 3) (1 : Int32) p3 p4 σ).bind fun q3 =>
    ((rec (q3.2.1 51 3) (0 : Int32) (p3 - (q3.2.1 51 4)) p4 q3.2).bind fun q4 =>
    some ((q3.1 ^^^ q4.1), q4.2)))
  else
  (if p1 = (20 : Int32) then
    ((rec p2 (0 : Int32) p3 p4 σ).bind fun q5 =>
    some ((q5.1 + (q5.2.1 51 4)), q5.2))
  else
  (if p1 = (30 : Int32) then
    ((rec p2 (1 : Int32) p3 p4 σ).bind fun q6 =>
    some ((q6.1 * (3 : Int32)), q6.2))
  else
  (if p1 = (40 : Int32) then
    ((rec p2 (1 : Int32) (p3 + (1 : Int32)) p4 σ).bind fun q7 =>
    some (q7.1, q7.2))
  else
  (if p1 = (50 : Int32) then
    ((rec p2 (2 : Int32) p3 p4 σ).bind fun q8 =>
    some ((-q8.1), q8.2))
  else
  (if p1 = (51 : Int32) then
    ((rec p2 (0 : Int32) p3 p4 σ).bind fun q9 =>
    some ((q9.1 - (q9.2.1 51 2)), q9.2))
  else
  (if p1 = (60 : Int32) then
    ((rec p2 (2 : Int32) p3 p4 σ).bind fun q10 =>
    some ((q10.1 ^^^ (5 : Int32)), q10.2))
  else
  (if p1 = (70 : Int32) then
    ((rec p2 (0 : Int32) p3 p4 σ).bind fun q11 =>
    some ((q11.1 * (2 : Int32)), q11.2))
  else
  (if p1 = (71 : Int32) then
    ((rec p2 (1 : Int32) (p3 - (σ.1 51 4)) p4 σ).bind fun q12 =>
    some (q12.1, q12.2))
  else
    some ((0 : Int32), σ))))))))))))
set_option maxRecDepth 100000 in
set_option maxHeartbeats 4000000 in
theorem ct_Mo_answerOf (X : nm_X) (rec : Int32 → Int32 → Int32 → Int32 → nm_St → Option (Int32 × nm_St)) (hR : Nat) (hrec : ∀ (p1 p2 p3 p4 : Int32) (σ : nm_St), Ct X mi_Mo_run hR nm_wI [.ref 51, .int p1, .int p2, .int p3, .int p4] σ (rec p1 p2 p3 p4 σ)) (hR8 : 2 ≤ hR) (p1 : Int32) (p2 : Int32) (p3 : Int32) (p4 : Int32) (σ : nm_St) : Ct X mi_Mo_answerOf (hR + 1) nm_wI [.ref 51, .int p1, .int p2, .int p3, .int p4] σ (Mo_answerOf rec p1 p2 p3 p4 σ) := by
  refine Ct.of (by decide +kernel) rfl (fun F hF0 => ?_)
  unfold Mo_answerOf
  refine rn_iload_n (pc := 0) 1 dk_Mo_answerOf_0 rfl rfl ?_
  refine rn_lcase (pc := 1) (10 : Int32) 100 dk_Mo_answerOf_1 (by decide) (off := 99) (by decide) (by decide) (fun c1_0 => ?_) (fun c1_0 => ?_)
  · refine rn_iload_n (pc := 100) 3 dk_Mo_answerOf_100 rfl rfl ?_
    refine rn_aload_n (pc := 101) 0 dk_Mo_answerOf_101 rfl rfl rfl ?_
    refine gf_Mo_19 (pc := 102) rfl dk_Mo_answerOf_102 ?_
    refine rn_iadd (pc := 105) dk_Mo_answerOf_105 ?_
    exact rn_iret rfl dk_Mo_answerOf_106
  refine rn_lcase (pc := 1) (11 : Int32) 107 dk_Mo_answerOf_1 (by decide) (off := 106) (by decide) (by decide) (fun c1_1 => ?_) (fun c1_1 => ?_)
  · refine rn_aload_n (pc := 107) 0 dk_Mo_answerOf_107 rfl rfl rfl ?_
    refine rn_aload_n (pc := 108) 0 dk_Mo_answerOf_108 rfl rfl rfl ?_
    refine gf_Mo_22 (pc := 109) rfl dk_Mo_answerOf_109 ?_
    refine rn_iconst (pc := 112) (0 : Int32) dk_Mo_answerOf_112 cn_i_0 ?_
    refine rn_iload_n (pc := 113) 3 dk_Mo_answerOf_113 rfl rfl ?_
    refine rn_iload (pc := 114) dk_Mo_answerOf_114 rfl ?_
    refine cl_Mo_41 (pc := 116) (As := [.int (σ.1 51 3), .int (0 : Int32), .int p3, .int p4]) (st := []) rfl (hrec (σ.1 51 3) (0 : Int32) p3 p4 σ) (by omega) rfl rfl (Nat.le_of_ble_eq_true rfl) dk_Mo_answerOf_116 (fun q2 => ?_)
    refine rn_iconst (pc := 119) (2 : Int32) dk_Mo_answerOf_119 cn_i_2 ?_
    refine rn_imul (pc := 120) dk_Mo_answerOf_120 ?_
    exact rn_iret rfl dk_Mo_answerOf_121
  refine rn_lcase (pc := 1) (12 : Int32) 122 dk_Mo_answerOf_1 (by decide) (off := 121) (by decide) (by decide) (fun c1_2 => ?_) (fun c1_2 => ?_)
  · refine rn_aload_n (pc := 122) 0 dk_Mo_answerOf_122 rfl rfl rfl ?_
    refine rn_aload_n (pc := 123) 0 dk_Mo_answerOf_123 rfl rfl rfl ?_
    refine gf_Mo_22 (pc := 124) rfl dk_Mo_answerOf_124 ?_
    refine rn_iconst (pc := 127) (1 : Int32) dk_Mo_answerOf_127 cn_i_1 ?_
    refine rn_iload_n (pc := 128) 3 dk_Mo_answerOf_128 rfl rfl ?_
    refine rn_iload (pc := 129) dk_Mo_answerOf_129 rfl ?_
    refine cl_Mo_41 (pc := 131) (As := [.int (σ.1 51 3), .int (1 : Int32), .int p3, .int p4]) (st := []) rfl (hrec (σ.1 51 3) (1 : Int32) p3 p4 σ) (by omega) rfl rfl (Nat.le_of_ble_eq_true rfl) dk_Mo_answerOf_131 (fun q3 => ?_)
    refine rn_aload_n (pc := 134) 0 dk_Mo_answerOf_134 rfl rfl rfl ?_
    refine rn_aload_n (pc := 135) 0 dk_Mo_answerOf_135 rfl rfl rfl ?_
    refine gf_Mo_22 (pc := 136) rfl dk_Mo_answerOf_136 ?_
    refine rn_iconst (pc := 139) (0 : Int32) dk_Mo_answerOf_139 cn_i_0 ?_
    refine rn_iload_n (pc := 140) 3 dk_Mo_answerOf_140 rfl rfl ?_
    refine rn_aload_n (pc := 141) 0 dk_Mo_answerOf_141 rfl rfl rfl ?_
    refine gf_Mo_25 (pc := 142) rfl dk_Mo_answerOf_142 ?_
    refine rn_isub (pc := 145) dk_Mo_answerOf_145 ?_
    refine rn_iload (pc := 146) dk_Mo_answerOf_146 rfl ?_
    refine cl_Mo_41 (pc := 148) (As := [.int (q3.2.1 51 3), .int (0 : Int32), .int (p3 - (q3.2.1 51 4)), .int p4]) (st := [.int q3.1]) rfl (hrec (q3.2.1 51 3) (0 : Int32) (p3 - (q3.2.1 51 4)) p4 q3.2) (by omega) rfl rfl (Nat.le_of_ble_eq_true rfl) dk_Mo_answerOf_148 (fun q4 => ?_)
    refine rn_ixor (pc := 151) dk_Mo_answerOf_151 ?_
    exact rn_iret rfl dk_Mo_answerOf_152
  refine rn_lcase (pc := 1) (20 : Int32) 153 dk_Mo_answerOf_1 (by decide) (off := 152) (by decide) (by decide) (fun c1_3 => ?_) (fun c1_3 => ?_)
  · refine rn_aload_n (pc := 153) 0 dk_Mo_answerOf_153 rfl rfl rfl ?_
    refine rn_iload_n (pc := 154) 2 dk_Mo_answerOf_154 rfl rfl ?_
    refine rn_iconst (pc := 155) (0 : Int32) dk_Mo_answerOf_155 cn_i_0 ?_
    refine rn_iload_n (pc := 156) 3 dk_Mo_answerOf_156 rfl rfl ?_
    refine rn_iload (pc := 157) dk_Mo_answerOf_157 rfl ?_
    refine cl_Mo_41 (pc := 159) (As := [.int p2, .int (0 : Int32), .int p3, .int p4]) (st := []) rfl (hrec p2 (0 : Int32) p3 p4 σ) (by omega) rfl rfl (Nat.le_of_ble_eq_true rfl) dk_Mo_answerOf_159 (fun q5 => ?_)
    refine rn_aload_n (pc := 162) 0 dk_Mo_answerOf_162 rfl rfl rfl ?_
    refine gf_Mo_25 (pc := 163) rfl dk_Mo_answerOf_163 ?_
    refine rn_iadd (pc := 166) dk_Mo_answerOf_166 ?_
    exact rn_iret rfl dk_Mo_answerOf_167
  refine rn_lcase (pc := 1) (30 : Int32) 168 dk_Mo_answerOf_1 (by decide) (off := 167) (by decide) (by decide) (fun c1_4 => ?_) (fun c1_4 => ?_)
  · refine rn_aload_n (pc := 168) 0 dk_Mo_answerOf_168 rfl rfl rfl ?_
    refine rn_iload_n (pc := 169) 2 dk_Mo_answerOf_169 rfl rfl ?_
    refine rn_iconst (pc := 170) (1 : Int32) dk_Mo_answerOf_170 cn_i_1 ?_
    refine rn_iload_n (pc := 171) 3 dk_Mo_answerOf_171 rfl rfl ?_
    refine rn_iload (pc := 172) dk_Mo_answerOf_172 rfl ?_
    refine cl_Mo_41 (pc := 174) (As := [.int p2, .int (1 : Int32), .int p3, .int p4]) (st := []) rfl (hrec p2 (1 : Int32) p3 p4 σ) (by omega) rfl rfl (Nat.le_of_ble_eq_true rfl) dk_Mo_answerOf_174 (fun q6 => ?_)
    refine rn_iconst (pc := 177) (3 : Int32) dk_Mo_answerOf_177 cn_i_3 ?_
    refine rn_imul (pc := 178) dk_Mo_answerOf_178 ?_
    exact rn_iret rfl dk_Mo_answerOf_179
  refine rn_lcase (pc := 1) (40 : Int32) 180 dk_Mo_answerOf_1 (by decide) (off := 179) (by decide) (by decide) (fun c1_5 => ?_) (fun c1_5 => ?_)
  · refine rn_aload_n (pc := 180) 0 dk_Mo_answerOf_180 rfl rfl rfl ?_
    refine rn_iload_n (pc := 181) 2 dk_Mo_answerOf_181 rfl rfl ?_
    refine rn_iconst (pc := 182) (1 : Int32) dk_Mo_answerOf_182 cn_i_1 ?_
    refine rn_iload_n (pc := 183) 3 dk_Mo_answerOf_183 rfl rfl ?_
    refine rn_iconst (pc := 184) (1 : Int32) dk_Mo_answerOf_184 cn_i_1 ?_
    refine rn_iadd (pc := 185) dk_Mo_answerOf_185 ?_
    refine rn_iload (pc := 186) dk_Mo_answerOf_186 rfl ?_
    refine cl_Mo_41 (pc := 188) (As := [.int p2, .int (1 : Int32), .int (p3 + (1 : Int32)), .int p4]) (st := []) rfl (hrec p2 (1 : Int32) (p3 + (1 : Int32)) p4 σ) (by omega) rfl rfl (Nat.le_of_ble_eq_true rfl) dk_Mo_answerOf_188 (fun q7 => ?_)
    exact rn_iret rfl dk_Mo_answerOf_191
  refine rn_lcase (pc := 1) (50 : Int32) 192 dk_Mo_answerOf_1 (by decide) (off := 191) (by decide) (by decide) (fun c1_6 => ?_) (fun c1_6 => ?_)
  · refine rn_aload_n (pc := 192) 0 dk_Mo_answerOf_192 rfl rfl rfl ?_
    refine rn_iload_n (pc := 193) 2 dk_Mo_answerOf_193 rfl rfl ?_
    refine rn_iconst (pc := 194) (2 : Int32) dk_Mo_answerOf_194 cn_i_2 ?_
    refine rn_iload_n (pc := 195) 3 dk_Mo_answerOf_195 rfl rfl ?_
    refine rn_iload (pc := 196) dk_Mo_answerOf_196 rfl ?_
    refine cl_Mo_41 (pc := 198) (As := [.int p2, .int (2 : Int32), .int p3, .int p4]) (st := []) rfl (hrec p2 (2 : Int32) p3 p4 σ) (by omega) rfl rfl (Nat.le_of_ble_eq_true rfl) dk_Mo_answerOf_198 (fun q8 => ?_)
    refine rn_ineg (pc := 201) dk_Mo_answerOf_201 ?_
    exact rn_iret rfl dk_Mo_answerOf_202
  refine rn_lcase (pc := 1) (51 : Int32) 203 dk_Mo_answerOf_1 (by decide) (off := 202) (by decide) (by decide) (fun c1_7 => ?_) (fun c1_7 => ?_)
  · refine rn_aload_n (pc := 203) 0 dk_Mo_answerOf_203 rfl rfl rfl ?_
    refine rn_iload_n (pc := 204) 2 dk_Mo_answerOf_204 rfl rfl ?_
    refine rn_iconst (pc := 205) (0 : Int32) dk_Mo_answerOf_205 cn_i_0 ?_
    refine rn_iload_n (pc := 206) 3 dk_Mo_answerOf_206 rfl rfl ?_
    refine rn_iload (pc := 207) dk_Mo_answerOf_207 rfl ?_
    refine cl_Mo_41 (pc := 209) (As := [.int p2, .int (0 : Int32), .int p3, .int p4]) (st := []) rfl (hrec p2 (0 : Int32) p3 p4 σ) (by omega) rfl rfl (Nat.le_of_ble_eq_true rfl) dk_Mo_answerOf_209 (fun q9 => ?_)
    refine rn_aload_n (pc := 212) 0 dk_Mo_answerOf_212 rfl rfl rfl ?_
    refine gf_Mo_19 (pc := 213) rfl dk_Mo_answerOf_213 ?_
    refine rn_isub (pc := 216) dk_Mo_answerOf_216 ?_
    exact rn_iret rfl dk_Mo_answerOf_217
  refine rn_lcase (pc := 1) (60 : Int32) 218 dk_Mo_answerOf_1 (by decide) (off := 217) (by decide) (by decide) (fun c1_8 => ?_) (fun c1_8 => ?_)
  · refine rn_aload_n (pc := 218) 0 dk_Mo_answerOf_218 rfl rfl rfl ?_
    refine rn_iload_n (pc := 219) 2 dk_Mo_answerOf_219 rfl rfl ?_
    refine rn_iconst (pc := 220) (2 : Int32) dk_Mo_answerOf_220 cn_i_2 ?_
    refine rn_iload_n (pc := 221) 3 dk_Mo_answerOf_221 rfl rfl ?_
    refine rn_iload (pc := 222) dk_Mo_answerOf_222 rfl ?_
    refine cl_Mo_41 (pc := 224) (As := [.int p2, .int (2 : Int32), .int p3, .int p4]) (st := []) rfl (hrec p2 (2 : Int32) p3 p4 σ) (by omega) rfl rfl (Nat.le_of_ble_eq_true rfl) dk_Mo_answerOf_224 (fun q10 => ?_)
    refine rn_iconst (pc := 227) (5 : Int32) dk_Mo_answerOf_227 cn_i_5 ?_
    refine rn_ixor (pc := 228) dk_Mo_answerOf_228 ?_
    exact rn_iret rfl dk_Mo_answerOf_229
  refine rn_lcase (pc := 1) (70 : Int32) 230 dk_Mo_answerOf_1 (by decide) (off := 229) (by decide) (by decide) (fun c1_9 => ?_) (fun c1_9 => ?_)
  · refine rn_aload_n (pc := 230) 0 dk_Mo_answerOf_230 rfl rfl rfl ?_
    refine rn_iload_n (pc := 231) 2 dk_Mo_answerOf_231 rfl rfl ?_
    refine rn_iconst (pc := 232) (0 : Int32) dk_Mo_answerOf_232 cn_i_0 ?_
    refine rn_iload_n (pc := 233) 3 dk_Mo_answerOf_233 rfl rfl ?_
    refine rn_iload (pc := 234) dk_Mo_answerOf_234 rfl ?_
    refine cl_Mo_41 (pc := 236) (As := [.int p2, .int (0 : Int32), .int p3, .int p4]) (st := []) rfl (hrec p2 (0 : Int32) p3 p4 σ) (by omega) rfl rfl (Nat.le_of_ble_eq_true rfl) dk_Mo_answerOf_236 (fun q11 => ?_)
    refine rn_iconst (pc := 239) (2 : Int32) dk_Mo_answerOf_239 cn_i_2 ?_
    refine rn_imul (pc := 240) dk_Mo_answerOf_240 ?_
    exact rn_iret rfl dk_Mo_answerOf_241
  refine rn_lcase (pc := 1) (71 : Int32) 242 dk_Mo_answerOf_1 (by decide) (off := 241) (by decide) (by decide) (fun c1_10 => ?_) (fun c1_10 => ?_)
  · refine rn_aload_n (pc := 242) 0 dk_Mo_answerOf_242 rfl rfl rfl ?_
    refine rn_iload_n (pc := 243) 2 dk_Mo_answerOf_243 rfl rfl ?_
    refine rn_iconst (pc := 244) (1 : Int32) dk_Mo_answerOf_244 cn_i_1 ?_
    refine rn_iload_n (pc := 245) 3 dk_Mo_answerOf_245 rfl rfl ?_
    refine rn_aload_n (pc := 246) 0 dk_Mo_answerOf_246 rfl rfl rfl ?_
    refine gf_Mo_25 (pc := 247) rfl dk_Mo_answerOf_247 ?_
    refine rn_isub (pc := 250) dk_Mo_answerOf_250 ?_
    refine rn_iload (pc := 251) dk_Mo_answerOf_251 rfl ?_
    refine cl_Mo_41 (pc := 253) (As := [.int p2, .int (1 : Int32), .int (p3 - (σ.1 51 4)), .int p4]) (st := []) rfl (hrec p2 (1 : Int32) (p3 - (σ.1 51 4)) p4 σ) (by omega) rfl rfl (Nat.le_of_ble_eq_true rfl) dk_Mo_answerOf_253 (fun q12 => ?_)
    exact rn_iret rfl dk_Mo_answerOf_256
  refine rn_ldef (pc := 1) 257 dk_Mo_answerOf_1 (by decide) ((lv_osw c1_0 (by decide)).trans ((lv_osw c1_1 (by decide)).trans ((lv_osw c1_2 (by decide)).trans ((lv_osw c1_3 (by decide)).trans ((lv_osw c1_4 (by decide)).trans ((lv_osw c1_5 (by decide)).trans ((lv_osw c1_6 (by decide)).trans ((lv_osw c1_7 (by decide)).trans ((lv_osw c1_8 (by decide)).trans ((lv_osw c1_9 (by decide)).trans ((lv_osw c1_10 (by decide)).trans rfl))))))))))) (by decide) ?_
  refine rn_iconst (pc := 257) (0 : Int32) dk_Mo_answerOf_257 cn_i_0 ?_
  exact rn_iret rfl dk_Mo_answerOf_258
theorem dk_Mo_bodyOf_0 : decode mi_Mo_bodyOf.2.1 0 = .ok (.iload_n 0, 1) := by decide +kernel
theorem dk_Mo_bodyOf_1 : decode mi_Mo_bodyOf.2.1 1 = .ok (.iconst 3, 1) := by decide +kernel
theorem dk_Mo_bodyOf_2 : decode mi_Mo_bodyOf.2.1 2 = .ok (.imul, 1) := by decide +kernel
theorem dk_Mo_bodyOf_3 : decode mi_Mo_bodyOf.2.1 3 = .ok (.iload_n 1, 1) := by decide +kernel
theorem dk_Mo_bodyOf_4 : decode mi_Mo_bodyOf.2.1 4 = .ok (.iadd, 1) := by decide +kernel
theorem dk_Mo_bodyOf_5 : decode mi_Mo_bodyOf.2.1 5 = .ok (.istore_n 2, 1) := by decide +kernel
theorem dk_Mo_bodyOf_6 : decode mi_Mo_bodyOf.2.1 6 = .ok (.iload_n 2, 1) := by decide +kernel
theorem dk_Mo_bodyOf_7 : decode mi_Mo_bodyOf.2.1 7 = .ok (.ifCond .lt 19, 3) := by decide +kernel
theorem dk_Mo_bodyOf_10 : decode mi_Mo_bodyOf.2.1 10 = .ok (.iload_n 2, 1) := by decide +kernel
theorem dk_Mo_bodyOf_11 : decode mi_Mo_bodyOf.2.1 11 = .ok (.getstatic 45, 3) := by decide +kernel
theorem dk_Mo_bodyOf_14 : decode mi_Mo_bodyOf.2.1 14 = .ok (.arraylength, 1) := by decide +kernel
theorem dk_Mo_bodyOf_15 : decode mi_Mo_bodyOf.2.1 15 = .ok (.if_icmp .ge 11, 3) := by decide +kernel
theorem dk_Mo_bodyOf_18 : decode mi_Mo_bodyOf.2.1 18 = .ok (.getstatic 45, 3) := by decide +kernel
theorem dk_Mo_bodyOf_21 : decode mi_Mo_bodyOf.2.1 21 = .ok (.iload_n 2, 1) := by decide +kernel
theorem dk_Mo_bodyOf_22 : decode mi_Mo_bodyOf.2.1 22 = .ok (.iaload, 1) := by decide +kernel
theorem dk_Mo_bodyOf_23 : decode mi_Mo_bodyOf.2.1 23 = .ok (.goto 4, 3) := by decide +kernel
theorem dk_Mo_bodyOf_26 : decode mi_Mo_bodyOf.2.1 26 = .ok (.iconst 0, 1) := by decide +kernel
theorem dk_Mo_bodyOf_27 : decode mi_Mo_bodyOf.2.1 27 = .ok (.ireturn, 1) := by decide +kernel
def Mo_bodyOf (p0 : Int32) (p1 : Int32) (σ : nm_St) : Option (Int32 × nm_St) :=
  (nm_let (((p0 * (3 : Int32)) + p1)) fun v1 =>
  (if v1 < 0 then
    some ((0 : Int32), σ)
  else
    (if (Int32.ofNat (nm_tabN 4)) ≤ v1 then
      some ((0 : Int32), σ)
    else
      (nm_g (nm_in v1 (nm_tabN 4)) (
      some (((nm_tab 4).getD v1.toNatClampNeg 0), σ))))))
set_option maxRecDepth 100000 in
set_option maxHeartbeats 4000000 in
theorem ct_Mo_bodyOf (X : nm_X) (p0 : Int32) (p1 : Int32) (σ : nm_St) : Ct X mi_Mo_bodyOf 0 nm_wI [.int p0, .int p1] σ (Mo_bodyOf p0 p1 σ) := by
  refine Ct.of (by decide +kernel) rfl (fun F hF0 => ?_)
  unfold Mo_bodyOf
  refine rn_iload_n (pc := 0) 0 dk_Mo_bodyOf_0 rfl rfl ?_
  refine rn_iconst (pc := 1) (3 : Int32) dk_Mo_bodyOf_1 cn_i_3 ?_
  refine rn_imul (pc := 2) dk_Mo_bodyOf_2 ?_
  refine rn_iload_n (pc := 3) 1 dk_Mo_bodyOf_3 rfl rfl ?_
  refine rn_iadd (pc := 4) dk_Mo_bodyOf_4 ?_
  refine rn_leti (fun v1 => ?_)
  refine rn_istore_n (pc := 5) 2 dk_Mo_bodyOf_5 rfl rfl rfl ?_
  refine rn_iload_n (pc := 6) 2 dk_Mo_bodyOf_6 rfl rfl ?_
  refine rn_if_lt (pc := 7) 26 dk_Mo_bodyOf_7 (by decide) (fun c2 => ?_) (fun c2 => ?_)
  · refine rn_iconst (pc := 26) (0 : Int32) dk_Mo_bodyOf_26 cn_i_0 ?_
    exact rn_iret rfl dk_Mo_bodyOf_27
  · refine rn_iload_n (pc := 10) 2 dk_Mo_bodyOf_10 rfl rfl ?_
    refine rn_getT (pc := 11) 4 (by decide) wd_1023 dk_Mo_bodyOf_11 ?_
    refine rn_alenT (pc := 14) 4 (by decide) dk_Mo_bodyOf_14 ?_
    refine rn_icmp_ge (pc := 15) 26 dk_Mo_bodyOf_15 (by decide) (fun c3 => ?_) (fun c3 => ?_)
    · refine rn_iconst (pc := 26) (0 : Int32) dk_Mo_bodyOf_26 cn_i_0 ?_
      exact rn_iret rfl dk_Mo_bodyOf_27
    · refine rn_getT (pc := 18) 4 (by decide) wd_1023 dk_Mo_bodyOf_18 ?_
      refine rn_iload_n (pc := 21) 2 dk_Mo_bodyOf_21 rfl rfl ?_
      refine rn_ialoadT (pc := 22) 4 (by decide) dk_Mo_bodyOf_22 (fun g4 => ?_)
      refine rn_goto (pc := 23) 27 dk_Mo_bodyOf_23 (by decide) ?_
      exact rn_iret rfl dk_Mo_bodyOf_27
theorem dk_Mo_run_0 : decode mi_Mo_run.2.1 0 = .ok (.iload 4, 2) := by decide +kernel
theorem dk_Mo_run_2 : decode mi_Mo_run.2.1 2 = .ok (.bipush 30, 2) := by decide +kernel
theorem dk_Mo_run_4 : decode mi_Mo_run.2.1 4 = .ok (.if_icmp .lt 5, 3) := by decide +kernel
theorem dk_Mo_run_7 : decode mi_Mo_run.2.1 7 = .ok (.iconst 0, 1) := by decide +kernel
theorem dk_Mo_run_8 : decode mi_Mo_run.2.1 8 = .ok (.ireturn, 1) := by decide +kernel
theorem dk_Mo_run_9 : decode mi_Mo_run.2.1 9 = .ok (.iload_n 1, 1) := by decide +kernel
theorem dk_Mo_run_10 : decode mi_Mo_run.2.1 10 = .ok (.istore 5, 2) := by decide +kernel
theorem dk_Mo_run_12 : decode mi_Mo_run.2.1 12 = .ok (.iconst 0, 1) := by decide +kernel
theorem dk_Mo_run_13 : decode mi_Mo_run.2.1 13 = .ok (.istore 6, 2) := by decide +kernel
theorem dk_Mo_run_15 : decode mi_Mo_run.2.1 15 = .ok (.iload 6, 2) := by decide +kernel
theorem dk_Mo_run_17 : decode mi_Mo_run.2.1 17 = .ok (.bipush 7, 2) := by decide +kernel
theorem dk_Mo_run_19 : decode mi_Mo_run.2.1 19 = .ok (.if_icmp .ge 31, 3) := by decide +kernel
theorem dk_Mo_run_22 : decode mi_Mo_run.2.1 22 = .ok (.iload 5, 2) := by decide +kernel
theorem dk_Mo_run_24 : decode mi_Mo_run.2.1 24 = .ok (.iconst (-1), 1) := by decide +kernel
theorem dk_Mo_run_25 : decode mi_Mo_run.2.1 25 = .ok (.if_icmp .eq 25, 3) := by decide +kernel
theorem dk_Mo_run_28 : decode mi_Mo_run.2.1 28 = .ok (.iload 5, 2) := by decide +kernel
theorem dk_Mo_run_30 : decode mi_Mo_run.2.1 30 = .ok (.iload_n 2, 1) := by decide +kernel
theorem dk_Mo_run_31 : decode mi_Mo_run.2.1 31 = .ok (.invokestatic 48, 3) := by decide +kernel
theorem dk_Mo_run_34 : decode mi_Mo_run.2.1 34 = .ok (.ifCond .ne 16, 3) := by decide +kernel
theorem dk_Mo_run_37 : decode mi_Mo_run.2.1 37 = .ok (.iload 5, 2) := by decide +kernel
theorem dk_Mo_run_39 : decode mi_Mo_run.2.1 39 = .ok (.invokestatic 52, 3) := by decide +kernel
theorem dk_Mo_run_42 : decode mi_Mo_run.2.1 42 = .ok (.istore 5, 2) := by decide +kernel
theorem dk_Mo_run_44 : decode mi_Mo_run.2.1 44 = .ok (.iinc 6 1, 3) := by decide +kernel
theorem dk_Mo_run_47 : decode mi_Mo_run.2.1 47 = .ok (.goto (-32), 3) := by decide +kernel
theorem dk_Mo_run_50 : decode mi_Mo_run.2.1 50 = .ok (.iload 5, 2) := by decide +kernel
theorem dk_Mo_run_52 : decode mi_Mo_run.2.1 52 = .ok (.iload_n 2, 1) := by decide +kernel
theorem dk_Mo_run_53 : decode mi_Mo_run.2.1 53 = .ok (.invokestatic 48, 3) := by decide +kernel
theorem dk_Mo_run_56 : decode mi_Mo_run.2.1 56 = .ok (.istore 6, 2) := by decide +kernel
theorem dk_Mo_run_58 : decode mi_Mo_run.2.1 58 = .ok (.aload_n 0, 1) := by decide +kernel
theorem dk_Mo_run_59 : decode mi_Mo_run.2.1 59 = .ok (.getfield 15, 3) := by decide +kernel
theorem dk_Mo_run_62 : decode mi_Mo_run.2.1 62 = .ok (.ifCond .lt 23, 3) := by decide +kernel
theorem dk_Mo_run_65 : decode mi_Mo_run.2.1 65 = .ok (.aload_n 0, 1) := by decide +kernel
theorem dk_Mo_run_66 : decode mi_Mo_run.2.1 66 = .ok (.getfield 15, 3) := by decide +kernel
theorem dk_Mo_run_69 : decode mi_Mo_run.2.1 69 = .ok (.bipush 20, 2) := by decide +kernel
theorem dk_Mo_run_71 : decode mi_Mo_run.2.1 71 = .ok (.if_icmp .ge 14, 3) := by decide +kernel
theorem dk_Mo_run_74 : decode mi_Mo_run.2.1 74 = .ok (.aload_n 0, 1) := by decide +kernel
theorem dk_Mo_run_75 : decode mi_Mo_run.2.1 75 = .ok (.getfield 11, 3) := by decide +kernel
theorem dk_Mo_run_78 : decode mi_Mo_run.2.1 78 = .ok (.aload_n 0, 1) := by decide +kernel
theorem dk_Mo_run_79 : decode mi_Mo_run.2.1 79 = .ok (.getfield 15, 3) := by decide +kernel
theorem dk_Mo_run_82 : decode mi_Mo_run.2.1 82 = .ok (.iload 6, 2) := by decide +kernel
theorem dk_Mo_run_84 : decode mi_Mo_run.2.1 84 = .ok (.iastore, 1) := by decide +kernel
theorem dk_Mo_run_85 : decode mi_Mo_run.2.1 85 = .ok (.aload_n 0, 1) := by decide +kernel
theorem dk_Mo_run_86 : decode mi_Mo_run.2.1 86 = .ok (.dup, 1) := by decide +kernel
theorem dk_Mo_run_87 : decode mi_Mo_run.2.1 87 = .ok (.getfield 15, 3) := by decide +kernel
theorem dk_Mo_run_90 : decode mi_Mo_run.2.1 90 = .ok (.iconst 1, 1) := by decide +kernel
theorem dk_Mo_run_91 : decode mi_Mo_run.2.1 91 = .ok (.iadd, 1) := by decide +kernel
theorem dk_Mo_run_92 : decode mi_Mo_run.2.1 92 = .ok (.putfield 15, 3) := by decide +kernel
theorem dk_Mo_run_95 : decode mi_Mo_run.2.1 95 = .ok (.aload_n 0, 1) := by decide +kernel
theorem dk_Mo_run_96 : decode mi_Mo_run.2.1 96 = .ok (.iload 6, 2) := by decide +kernel
theorem dk_Mo_run_98 : decode mi_Mo_run.2.1 98 = .ok (.iload 5, 2) := by decide +kernel
theorem dk_Mo_run_100 : decode mi_Mo_run.2.1 100 = .ok (.invokestatic 52, 3) := by decide +kernel
theorem dk_Mo_run_103 : decode mi_Mo_run.2.1 103 = .ok (.iload_n 3, 1) := by decide +kernel
theorem dk_Mo_run_104 : decode mi_Mo_run.2.1 104 = .ok (.iload 4, 2) := by decide +kernel
theorem dk_Mo_run_106 : decode mi_Mo_run.2.1 106 = .ok (.iconst 1, 1) := by decide +kernel
theorem dk_Mo_run_107 : decode mi_Mo_run.2.1 107 = .ok (.iadd, 1) := by decide +kernel
theorem dk_Mo_run_108 : decode mi_Mo_run.2.1 108 = .ok (.invokevirtual 55, 3) := by decide +kernel
theorem dk_Mo_run_111 : decode mi_Mo_run.2.1 111 = .ok (.ireturn, 1) := by decide +kernel
def Mo_run_l15 (rec : Int32 → Int32 → Int32 → Int32 → nm_St → Option (Int32 × nm_St)) (k_50 : Int32 → Int32 → Int32 → Int32 → nm_St → Option (Int32 × nm_St)) : Nat → Int32 → Int32 → Int32 → Int32 → Int32 → nm_St → Option (Int32 × nm_St)
  | 0, _, _, _, _, _, _ => none
  | n + 1, x2, x3, x4, x5, x6, σ =>
    (if (7 : Int32) ≤ x6 then
      k_50 x2 x3 x4 x5 σ
    else
      (if x5 = (-1 : Int32) then
        k_50 x2 x3 x4 x5 σ
      else
        ((Mo_bodyOf x5 x2 σ).bind fun q4 =>
        (if q4.1 = 0 then
          ((Nm_kindAbove x5 q4.2).bind fun q6 =>
          (Mo_run_l15 rec k_50 n) x2 x3 x4 q6.1 (x6 + (1 : Int32)) q6.2)
        else
          k_50 x2 x3 x4 x5 q4.2))))
set_option maxRecDepth 100000 in
set_option maxHeartbeats 4000000 in
theorem r_Mo_run_l15 (X : nm_X) (F : nm_F) (rec : Int32 → Int32 → Int32 → Int32 → nm_St → Option (Int32 × nm_St)) (hR : Nat) (hrec : ∀ (p1 p2 p3 p4 : Int32) (σ : nm_St), Ct X mi_Mo_run hR nm_wI [.ref 51, .int p1, .int p2, .int p3, .int p4] σ (rec p1 p2 p3 p4 σ)) (hR8 : 2 ≤ hR) (hF0 : hR + 2 ≤ nm_d F) (k_50 : Int32 → Int32 → Int32 → Int32 → nm_St → Option (Int32 × nm_St)) (hk_50 : ∀ (x2 : Int32) (x3 : Int32) (x4 : Int32) (x5 : Int32) (σ : nm_St), Rn X mi_Mo_run F (nm_Qf X F nm_wI) [(0, .ref 51), (2, .int x2), (3, .int x3), (4, .int x4), (5, .int x5)] [] 50 σ (k_50 x2 x3 x4 x5 σ)) : ∀ (n : Nat) (x2 : Int32) (x3 : Int32) (x4 : Int32) (x5 : Int32) (x6 : Int32) (σ : nm_St), Rn X mi_Mo_run F (nm_Qf X F nm_wI) [(0, .ref 51), (2, .int x2), (3, .int x3), (4, .int x4), (5, .int x5), (6, .int x6)] [] 15 σ (Mo_run_l15 rec k_50 n x2 x3 x4 x5 x6 σ) := by
  intro n
  induction n with
  | zero =>
    intro x2 x3 x4 x5 x6 σ
    exact rn_none
  | succ n ih =>
    intro x2 x3 x4 x5 x6 σ
    unfold Mo_run_l15
    refine rn_iload (pc := 15) dk_Mo_run_15 rfl ?_
    refine rn_bipush (pc := 17) (7 : Int32) dk_Mo_run_17 cn_b_7 ?_
    refine rn_icmp_ge (pc := 19) 50 dk_Mo_run_19 (by decide) (fun c2 => ?_) (fun c2 => ?_)
    · exact rn_sub (by rfl) (hk_50 x2 x3 x4 x5 σ)
    · refine rn_iload (pc := 22) dk_Mo_run_22 rfl ?_
      refine rn_iconst (pc := 24) (-1 : Int32) dk_Mo_run_24 cn_i_m1 ?_
      refine rn_icmp_eq (pc := 25) 50 dk_Mo_run_25 (by decide) (fun c3 => ?_) (fun c3 => ?_)
      · exact rn_sub (by rfl) (hk_50 x2 x3 x4 x5 σ)
      · refine rn_iload (pc := 28) dk_Mo_run_28 rfl ?_
        refine rn_iload_n (pc := 30) 2 dk_Mo_run_30 rfl rfl ?_
        refine cl_Mo_48 (pc := 31) (As := [.int x5, .int x2]) (st := []) rfl (ct_Mo_bodyOf X x5 x2 σ) (by omega) rfl rfl (Nat.le_of_ble_eq_true rfl) dk_Mo_run_31 (fun q4 => ?_)
        refine rn_if_ne (pc := 34) 50 dk_Mo_run_34 (by decide) (fun c5 => ?_) (fun c5 => ?_)
        · exact rn_sub (by rfl) (hk_50 x2 x3 x4 x5 q4.2)
        · refine rn_iload (pc := 37) dk_Mo_run_37 rfl ?_
          refine cl_Mo_52 (pc := 39) (As := [.int x5]) (st := []) rfl (ct_Nm_kindAbove X x5 q4.2) (by omega) rfl rfl (Nat.le_of_ble_eq_true rfl) dk_Mo_run_39 (fun q6 => ?_)
          refine rn_istore (pc := 42) dk_Mo_run_42 rfl rfl ?_
          refine rn_iinc (pc := 44) (1 : Int32) dk_Mo_run_44 cn_i_1 rfl rfl rfl ?_
          refine rn_goto (pc := 47) 15 dk_Mo_run_47 (by decide) ?_
          exact rn_sub (by rfl) (ih x2 x3 x4 q6.1 (x6 + (1 : Int32)) q6.2)
def Mo_run_j85 (rec : Int32 → Int32 → Int32 → Int32 → nm_St → Option (Int32 × nm_St)) (x3 : Int32) (x4 : Int32) (x5 : Int32) (x6 : Int32) (σ : nm_St) : Option (Int32 × nm_St) :=
  (nm_let (nm_pI σ 51 1 ((σ.1 51 1) + (1 : Int32))) fun s14 =>
  ((Nm_kindAbove x5 s14).bind fun q15 =>
  ((Mo_answerOf rec x6 q15.1 x3 (x4 + (1 : Int32)) q15.2).bind fun q16 =>
  some (q16.1, q16.2))))
set_option maxRecDepth 100000 in
set_option maxHeartbeats 4000000 in
theorem r_Mo_run_j85 (X : nm_X) (F : nm_F) (rec : Int32 → Int32 → Int32 → Int32 → nm_St → Option (Int32 × nm_St)) (hR : Nat) (hrec : ∀ (p1 p2 p3 p4 : Int32) (σ : nm_St), Ct X mi_Mo_run hR nm_wI [.ref 51, .int p1, .int p2, .int p3, .int p4] σ (rec p1 p2 p3 p4 σ)) (hR8 : 2 ≤ hR) (hF0 : hR + 2 ≤ nm_d F) (x3 : Int32) (x4 : Int32) (x5 : Int32) (x6 : Int32) (σ : nm_St) : Rn X mi_Mo_run F (nm_Qf X F nm_wI) [(0, .ref 51), (3, .int x3), (4, .int x4), (5, .int x5), (6, .int x6)] [] 85 σ (Mo_run_j85 rec x3 x4 x5 x6 σ) := by
  unfold Mo_run_j85
  refine rn_aload_n (pc := 85) 0 dk_Mo_run_85 rfl rfl rfl ?_
  refine rn_dup (pc := 86) dk_Mo_run_86 rfl ?_
  refine gf_Mo_15 (pc := 87) rfl dk_Mo_run_87 ?_
  refine rn_iconst (pc := 90) (1 : Int32) dk_Mo_run_90 cn_i_1 ?_
  refine rn_iadd (pc := 91) dk_Mo_run_91 ?_
  refine pf_Mo_15 (pc := 92) rfl dk_Mo_run_92 ?_
  refine rn_lets (fun s14 => ?_)
  refine rn_aload_n (pc := 95) 0 dk_Mo_run_95 rfl rfl rfl ?_
  refine rn_iload (pc := 96) dk_Mo_run_96 rfl ?_
  refine rn_iload (pc := 98) dk_Mo_run_98 rfl ?_
  refine cl_Mo_52 (pc := 100) (As := [.int x5]) (st := [.int x6, .ref 51]) rfl (ct_Nm_kindAbove X x5 s14) (by omega) rfl rfl (Nat.le_of_ble_eq_true rfl) dk_Mo_run_100 (fun q15 => ?_)
  refine rn_iload_n (pc := 103) 3 dk_Mo_run_103 rfl rfl ?_
  refine rn_iload (pc := 104) dk_Mo_run_104 rfl ?_
  refine rn_iconst (pc := 106) (1 : Int32) dk_Mo_run_106 cn_i_1 ?_
  refine rn_iadd (pc := 107) dk_Mo_run_107 ?_
  refine cl_Mo_55 (pc := 108) (As := [.int x6, .int q15.1, .int x3, .int (x4 + (1 : Int32))]) (st := []) rfl (ct_Mo_answerOf X rec hR hrec hR8 x6 q15.1 x3 (x4 + (1 : Int32)) q15.2) (by omega) rfl rfl (Nat.le_of_ble_eq_true rfl) dk_Mo_run_108 (fun q16 => ?_)
  exact rn_iret rfl dk_Mo_run_111
def Mo_run_j50 (rec : Int32 → Int32 → Int32 → Int32 → nm_St → Option (Int32 × nm_St)) (x2 : Int32) (x3 : Int32) (x4 : Int32) (x5 : Int32) (σ : nm_St) : Option (Int32 × nm_St) :=
  ((Mo_bodyOf x5 x2 σ).bind fun q12 =>
  (if (q12.2.1 51 1) < 0 then
    Mo_run_j85 rec x3 x4 x5 q12.1 q12.2
  else
    (if (20 : Int32) ≤ (q12.2.1 51 1) then
      Mo_run_j85 rec x3 x4 x5 q12.1 q12.2
    else
      (nm_g (nm_in (q12.2.1 51 1) 20) (
      (nm_let (nm_pI q12.2 52 (q12.2.1 51 1).toNatClampNeg q12.1) fun s19 =>
      Mo_run_j85 rec x3 x4 x5 q12.1 s19))))))
set_option maxRecDepth 100000 in
set_option maxHeartbeats 4000000 in
theorem r_Mo_run_j50 (X : nm_X) (F : nm_F) (rec : Int32 → Int32 → Int32 → Int32 → nm_St → Option (Int32 × nm_St)) (hR : Nat) (hrec : ∀ (p1 p2 p3 p4 : Int32) (σ : nm_St), Ct X mi_Mo_run hR nm_wI [.ref 51, .int p1, .int p2, .int p3, .int p4] σ (rec p1 p2 p3 p4 σ)) (hR8 : 2 ≤ hR) (hF0 : hR + 2 ≤ nm_d F) (x2 : Int32) (x3 : Int32) (x4 : Int32) (x5 : Int32) (σ : nm_St) : Rn X mi_Mo_run F (nm_Qf X F nm_wI) [(0, .ref 51), (2, .int x2), (3, .int x3), (4, .int x4), (5, .int x5)] [] 50 σ (Mo_run_j50 rec x2 x3 x4 x5 σ) := by
  unfold Mo_run_j50
  refine rn_iload (pc := 50) dk_Mo_run_50 rfl ?_
  refine rn_iload_n (pc := 52) 2 dk_Mo_run_52 rfl rfl ?_
  refine cl_Mo_48 (pc := 53) (As := [.int x5, .int x2]) (st := []) rfl (ct_Mo_bodyOf X x5 x2 σ) (by omega) rfl rfl (Nat.le_of_ble_eq_true rfl) dk_Mo_run_53 (fun q12 => ?_)
  refine rn_istore (pc := 56) dk_Mo_run_56 rfl rfl ?_
  refine rn_aload_n (pc := 58) 0 dk_Mo_run_58 rfl rfl rfl ?_
  refine gf_Mo_15 (pc := 59) rfl dk_Mo_run_59 ?_
  refine rn_if_lt (pc := 62) 85 dk_Mo_run_62 (by decide) (fun c13 => ?_) (fun c13 => ?_)
  · exact rn_sub (by rfl) (r_Mo_run_j85 X F rec hR hrec hR8 hF0 x3 x4 x5 q12.1 q12.2)
  · refine rn_aload_n (pc := 65) 0 dk_Mo_run_65 rfl rfl rfl ?_
    refine gf_Mo_15 (pc := 66) rfl dk_Mo_run_66 ?_
    refine rn_bipush (pc := 69) (20 : Int32) dk_Mo_run_69 cn_b_20 ?_
    refine rn_icmp_ge (pc := 71) 85 dk_Mo_run_71 (by decide) (fun c17 => ?_) (fun c17 => ?_)
    · exact rn_sub (by rfl) (r_Mo_run_j85 X F rec hR hrec hR8 hF0 x3 x4 x5 q12.1 q12.2)
    · refine rn_aload_n (pc := 74) 0 dk_Mo_run_74 rfl rfl rfl ?_
      refine gf_Mo_11 (pc := 75) rfl dk_Mo_run_75 ?_
      refine rn_aload_n (pc := 78) 0 dk_Mo_run_78 rfl rfl rfl ?_
      refine gf_Mo_15 (pc := 79) rfl dk_Mo_run_79 ?_
      refine rn_iload (pc := 82) dk_Mo_run_82 rfl ?_
      refine rn_iastore (pc := 84) rfl dk_Mo_run_84 (fun g18 => ?_)
      refine rn_lets (fun s19 => ?_)
      exact rn_sub (by rfl) (r_Mo_run_j85 X F rec hR hrec hR8 hF0 x3 x4 x5 q12.1 s19)
def Mo_runB (rec : Int32 → Int32 → Int32 → Int32 → nm_St → Option (Int32 × nm_St)) (p1 : Int32) (p2 : Int32) (p3 : Int32) (p4 : Int32) (σ : nm_St) : Option (Int32 × nm_St) :=
  (if p4 < (30 : Int32) then
    Mo_run_l15 rec (fun (e8 : Int32) (e9 : Int32) (e10 : Int32) (e11 : Int32) (s7 : nm_St) =>
      Mo_run_j50 rec e8 e9 e10 e11 s7) 400 p2 p3 p4 p1 (0 : Int32) σ
  else
    some ((0 : Int32), σ))
set_option maxRecDepth 100000 in
set_option maxHeartbeats 4000000 in
theorem ct_Mo_runB (X : nm_X) (rec : Int32 → Int32 → Int32 → Int32 → nm_St → Option (Int32 × nm_St)) (hR : Nat) (hrec : ∀ (p1 p2 p3 p4 : Int32) (σ : nm_St), Ct X mi_Mo_run hR nm_wI [.ref 51, .int p1, .int p2, .int p3, .int p4] σ (rec p1 p2 p3 p4 σ)) (hR8 : 2 ≤ hR) (p1 : Int32) (p2 : Int32) (p3 : Int32) (p4 : Int32) (σ : nm_St) : Ct X mi_Mo_run (hR + 2) nm_wI [.ref 51, .int p1, .int p2, .int p3, .int p4] σ (Mo_runB rec p1 p2 p3 p4 σ) := by
  refine Ct.of (by decide +kernel) rfl (fun F hF0 => ?_)
  unfold Mo_runB
  refine rn_iload (pc := 0) dk_Mo_run_0 rfl ?_
  refine rn_bipush (pc := 2) (30 : Int32) dk_Mo_run_2 cn_b_30 ?_
  refine rn_icmp_lt (pc := 4) 9 dk_Mo_run_4 (by decide) (fun c1 => ?_) (fun c1 => ?_)
  · refine rn_iload_n (pc := 9) 1 dk_Mo_run_9 rfl rfl ?_
    refine rn_istore (pc := 10) dk_Mo_run_10 rfl rfl ?_
    refine rn_iconst (pc := 12) (0 : Int32) dk_Mo_run_12 cn_i_0 ?_
    refine rn_istore (pc := 13) dk_Mo_run_13 rfl rfl ?_
    refine rn_sub (by rfl) (r_Mo_run_l15 X F rec hR hrec hR8 hF0 _ (fun e8 e9 e10 e11 s7 => ?_) 400 p2 p3 p4 p1 (0 : Int32) σ)
    exact rn_sub (by rfl) (r_Mo_run_j50 X F rec hR hrec hR8 hF0 e8 e9 e10 e11 s7)
  · refine rn_iconst (pc := 7) (0 : Int32) dk_Mo_run_7 cn_i_0 ?_
    exact rn_iret rfl dk_Mo_run_8
def Mo_run : Nat → Int32 → Int32 → Int32 → Int32 → nm_St → Option (Int32 × nm_St)
  | 0, _, _, _, _, _ => none
  | n + 1, p1, p2, p3, p4, σ => Mo_runB (Mo_run n) p1 p2 p3 p4 σ
theorem ct_Mo_run (X : nm_X) : ∀ (n : Nat) (p1 p2 p3 p4 : Int32) (σ : nm_St), Ct X mi_Mo_run (2 + 2 * n) nm_wI [.ref 51, .int p1, .int p2, .int p3, .int p4] σ (Mo_run n p1 p2 p3 p4 σ)
  | 0, _, _, _, _, _ => fun _ _ _ _ h => by cases h
  | n + 1, p1, p2, p3, p4, σ => ct_Mo_runB X (Mo_run n) (2 + 2 * n) (fun p1 p2 p3 p4 σ => ct_Mo_run X n p1 p2 p3 p4 σ) (Nat.le_add_right _ _) p1 p2 p3 p4 σ
theorem dk_Mo_begin_0 : decode mi_Mo_begin.2.1 0 = .ok (.aload_n 0, 1) := by decide +kernel
theorem dk_Mo_begin_1 : decode mi_Mo_begin.2.1 1 = .ok (.iconst 0, 1) := by decide +kernel
theorem dk_Mo_begin_2 : decode mi_Mo_begin.2.1 2 = .ok (.putfield 15, 3) := by decide +kernel
theorem dk_Mo_begin_5 : decode mi_Mo_begin.2.1 5 = .ok (.aload_n 1, 1) := by decide +kernel
theorem dk_Mo_begin_6 : decode mi_Mo_begin.2.1 6 = .ok (.iload_n 2, 1) := by decide +kernel
theorem dk_Mo_begin_7 : decode mi_Mo_begin.2.1 7 = .ok (.invokevirtual 28, 3) := by decide +kernel
theorem dk_Mo_begin_10 : decode mi_Mo_begin.2.1 10 = .ok (.ifCond .eq 12, 3) := by decide +kernel
theorem dk_Mo_begin_13 : decode mi_Mo_begin.2.1 13 = .ok (.iload_n 3, 1) := by decide +kernel
theorem dk_Mo_begin_14 : decode mi_Mo_begin.2.1 14 = .ok (.ifCond .lt 8, 3) := by decide +kernel
theorem dk_Mo_begin_17 : decode mi_Mo_begin.2.1 17 = .ok (.iload_n 3, 1) := by decide +kernel
theorem dk_Mo_begin_18 : decode mi_Mo_begin.2.1 18 = .ok (.iconst 3, 1) := by decide +kernel
theorem dk_Mo_begin_19 : decode mi_Mo_begin.2.1 19 = .ok (.if_icmp .lt 5, 3) := by decide +kernel
theorem dk_Mo_begin_22 : decode mi_Mo_begin.2.1 22 = .ok (.iconst 0, 1) := by decide +kernel
theorem dk_Mo_begin_23 : decode mi_Mo_begin.2.1 23 = .ok (.ireturn, 1) := by decide +kernel
theorem dk_Mo_begin_24 : decode mi_Mo_begin.2.1 24 = .ok (.aload_n 0, 1) := by decide +kernel
theorem dk_Mo_begin_25 : decode mi_Mo_begin.2.1 25 = .ok (.iload_n 2, 1) := by decide +kernel
theorem dk_Mo_begin_26 : decode mi_Mo_begin.2.1 26 = .ok (.putfield 19, 3) := by decide +kernel
theorem dk_Mo_begin_29 : decode mi_Mo_begin.2.1 29 = .ok (.aload_n 0, 1) := by decide +kernel
theorem dk_Mo_begin_30 : decode mi_Mo_begin.2.1 30 = .ok (.aload_n 1, 1) := by decide +kernel
theorem dk_Mo_begin_31 : decode mi_Mo_begin.2.1 31 = .ok (.iload_n 2, 1) := by decide +kernel
theorem dk_Mo_begin_32 : decode mi_Mo_begin.2.1 32 = .ok (.invokevirtual 34, 3) := by decide +kernel
theorem dk_Mo_begin_35 : decode mi_Mo_begin.2.1 35 = .ok (.putfield 22, 3) := by decide +kernel
theorem dk_Mo_begin_38 : decode mi_Mo_begin.2.1 38 = .ok (.aload_n 0, 1) := by decide +kernel
theorem dk_Mo_begin_39 : decode mi_Mo_begin.2.1 39 = .ok (.aload_n 1, 1) := by decide +kernel
theorem dk_Mo_begin_40 : decode mi_Mo_begin.2.1 40 = .ok (.iload_n 2, 1) := by decide +kernel
theorem dk_Mo_begin_41 : decode mi_Mo_begin.2.1 41 = .ok (.invokevirtual 38, 3) := by decide +kernel
theorem dk_Mo_begin_44 : decode mi_Mo_begin.2.1 44 = .ok (.putfield 25, 3) := by decide +kernel
theorem dk_Mo_begin_47 : decode mi_Mo_begin.2.1 47 = .ok (.aload_n 0, 1) := by decide +kernel
theorem dk_Mo_begin_48 : decode mi_Mo_begin.2.1 48 = .ok (.aload_n 0, 1) := by decide +kernel
theorem dk_Mo_begin_49 : decode mi_Mo_begin.2.1 49 = .ok (.getfield 22, 3) := by decide +kernel
theorem dk_Mo_begin_52 : decode mi_Mo_begin.2.1 52 = .ok (.iload_n 3, 1) := by decide +kernel
theorem dk_Mo_begin_53 : decode mi_Mo_begin.2.1 53 = .ok (.iload 4, 2) := by decide +kernel
theorem dk_Mo_begin_55 : decode mi_Mo_begin.2.1 55 = .ok (.iconst 0, 1) := by decide +kernel
theorem dk_Mo_begin_56 : decode mi_Mo_begin.2.1 56 = .ok (.invokevirtual 41, 3) := by decide +kernel
theorem dk_Mo_begin_59 : decode mi_Mo_begin.2.1 59 = .ok (.ireturn, 1) := by decide +kernel
def Mo_begin (o1 : Nat) (p2 : Int32) (p3 : Int32) (p4 : Int32) (σ : nm_St) : Option (Int32 × nm_St) :=
  (nm_let (nm_pI σ 51 1 (0 : Int32)) fun s1 =>
  ((Is_isMaker o1 p2 s1).bind fun q2 =>
  (if q2.1 = 0 then
    some ((0 : Int32), q2.2)
  else
    (if p3 < 0 then
      some ((0 : Int32), q2.2)
    else
      (if p3 < (3 : Int32) then
        (nm_let (nm_pI q2.2 51 2 p2) fun s6 =>
        ((Is_kindOf o1 p2 s6).bind fun q7 =>
        (nm_let (nm_pI q7.2 51 3 q7.1) fun s8 =>
        ((Is_aOf o1 p2 s8).bind fun q9 =>
        (nm_let (nm_pI q9.2 51 4 q9.1) fun s10 =>
        ((Mo_run 40 (s10.1 51 3) p3 p4 (0 : Int32) s10).bind fun q11 =>
        some (q11.1, q11.2)))))))
      else
        some ((0 : Int32), q2.2))))))
set_option maxRecDepth 100000 in
set_option maxHeartbeats 4000000 in
theorem ct_Mo_begin (X : nm_X) (o1 : Nat) (ho1 : nm_isl o1 = true) (p2 : Int32) (p3 : Int32) (p4 : Int32) (σ : nm_St) : Ct X mi_Mo_begin 83 nm_wI [.ref 51, .ref o1, .int p2, .int p3, .int p4] σ (Mo_begin o1 p2 p3 p4 σ) := by
  refine Ct.of (by decide +kernel) rfl (fun F hF0 => ?_)
  unfold Mo_begin
  refine rn_aload_n (pc := 0) 0 dk_Mo_begin_0 rfl rfl rfl ?_
  refine rn_iconst (pc := 1) (0 : Int32) dk_Mo_begin_1 cn_i_0 ?_
  refine pf_Mo_15 (pc := 2) rfl dk_Mo_begin_2 ?_
  refine rn_lets (fun s1 => ?_)
  refine rn_aload_n (pc := 5) 1 dk_Mo_begin_5 rfl rfl (nm_rok_isl ho1) ?_
  refine rn_iload_n (pc := 6) 2 dk_Mo_begin_6 rfl rfl ?_
  refine cl_Mo_28 (pc := 7) (As := [.int p2]) (st := []) o1 ho1 rfl (ct_Is_isMaker X o1 ho1 p2 s1) (Nat.le_trans (Nat.le_of_ble_eq_true rfl) hF0) rfl rfl (Nat.le_of_ble_eq_true rfl) dk_Mo_begin_7 (fun q2 => ?_)
  refine rn_if_eq (pc := 10) 22 dk_Mo_begin_10 (by decide) (fun c3 => ?_) (fun c3 => ?_)
  · refine rn_iconst (pc := 22) (0 : Int32) dk_Mo_begin_22 cn_i_0 ?_
    exact rn_iret rfl dk_Mo_begin_23
  · refine rn_iload_n (pc := 13) 3 dk_Mo_begin_13 rfl rfl ?_
    refine rn_if_lt (pc := 14) 22 dk_Mo_begin_14 (by decide) (fun c4 => ?_) (fun c4 => ?_)
    · refine rn_iconst (pc := 22) (0 : Int32) dk_Mo_begin_22 cn_i_0 ?_
      exact rn_iret rfl dk_Mo_begin_23
    · refine rn_iload_n (pc := 17) 3 dk_Mo_begin_17 rfl rfl ?_
      refine rn_iconst (pc := 18) (3 : Int32) dk_Mo_begin_18 cn_i_3 ?_
      refine rn_icmp_lt (pc := 19) 24 dk_Mo_begin_19 (by decide) (fun c5 => ?_) (fun c5 => ?_)
      · refine rn_aload_n (pc := 24) 0 dk_Mo_begin_24 rfl rfl rfl ?_
        refine rn_iload_n (pc := 25) 2 dk_Mo_begin_25 rfl rfl ?_
        refine pf_Mo_19 (pc := 26) rfl dk_Mo_begin_26 ?_
        refine rn_lets (fun s6 => ?_)
        refine rn_aload_n (pc := 29) 0 dk_Mo_begin_29 rfl rfl rfl ?_
        refine rn_aload_n (pc := 30) 1 dk_Mo_begin_30 rfl rfl (nm_rok_isl ho1) ?_
        refine rn_iload_n (pc := 31) 2 dk_Mo_begin_31 rfl rfl ?_
        refine cl_Mo_34 (pc := 32) (As := [.int p2]) (st := [.ref 51]) o1 ho1 rfl (ct_Is_kindOf X o1 ho1 p2 s6) (Nat.le_trans (Nat.le_of_ble_eq_true rfl) hF0) rfl rfl (Nat.le_of_ble_eq_true rfl) dk_Mo_begin_32 (fun q7 => ?_)
        refine pf_Mo_22 (pc := 35) rfl dk_Mo_begin_35 ?_
        refine rn_lets (fun s8 => ?_)
        refine rn_aload_n (pc := 38) 0 dk_Mo_begin_38 rfl rfl rfl ?_
        refine rn_aload_n (pc := 39) 1 dk_Mo_begin_39 rfl rfl (nm_rok_isl ho1) ?_
        refine rn_iload_n (pc := 40) 2 dk_Mo_begin_40 rfl rfl ?_
        refine cl_Mo_38 (pc := 41) (As := [.int p2]) (st := [.ref 51]) o1 ho1 rfl (ct_Is_aOf X o1 ho1 p2 s8) (Nat.le_trans (Nat.le_of_ble_eq_true rfl) hF0) rfl rfl (Nat.le_of_ble_eq_true rfl) dk_Mo_begin_41 (fun q9 => ?_)
        refine pf_Mo_25 (pc := 44) rfl dk_Mo_begin_44 ?_
        refine rn_lets (fun s10 => ?_)
        refine rn_aload_n (pc := 47) 0 dk_Mo_begin_47 rfl rfl rfl ?_
        refine rn_aload_n (pc := 48) 0 dk_Mo_begin_48 rfl rfl rfl ?_
        refine gf_Mo_22 (pc := 49) rfl dk_Mo_begin_49 ?_
        refine rn_iload_n (pc := 52) 3 dk_Mo_begin_52 rfl rfl ?_
        refine rn_iload (pc := 53) dk_Mo_begin_53 rfl ?_
        refine rn_iconst (pc := 55) (0 : Int32) dk_Mo_begin_55 cn_i_0 ?_
        refine cl_Mo_41 (pc := 56) (As := [.int (s10.1 51 3), .int p3, .int p4, .int (0 : Int32)]) (st := []) rfl (ct_Mo_run X 40 (s10.1 51 3) p3 p4 (0 : Int32) s10) (Nat.le_trans (Nat.le_of_ble_eq_true rfl) hF0) rfl rfl (Nat.le_of_ble_eq_true rfl) dk_Mo_begin_56 (fun q11 => ?_)
        exact rn_iret rfl dk_Mo_begin_59
      · refine rn_iconst (pc := 22) (0 : Int32) dk_Mo_begin_22 cn_i_0 ?_
        exact rn_iret rfl dk_Mo_begin_23
theorem dk_Nm_act_0 : decode mi_Nm_act.2.1 0 = .ok (.aload_n 0, 1) := by decide +kernel
theorem dk_Nm_act_1 : decode mi_Nm_act.2.1 1 = .ok (.getfield 52, 3) := by decide +kernel
theorem dk_Nm_act_4 : decode mi_Nm_act.2.1 4 = .ok (.aload_n 0, 1) := by decide +kernel
theorem dk_Nm_act_5 : decode mi_Nm_act.2.1 5 = .ok (.getfield 18, 3) := by decide +kernel
theorem dk_Nm_act_8 : decode mi_Nm_act.2.1 8 = .ok (.iload_n 1, 1) := by decide +kernel
theorem dk_Nm_act_9 : decode mi_Nm_act.2.1 9 = .ok (.iload_n 2, 1) := by decide +kernel
theorem dk_Nm_act_10 : decode mi_Nm_act.2.1 10 = .ok (.iload_n 3, 1) := by decide +kernel
theorem dk_Nm_act_11 : decode mi_Nm_act.2.1 11 = .ok (.invokevirtual 328, 3) := by decide +kernel
theorem dk_Nm_act_14 : decode mi_Nm_act.2.1 14 = .ok (.ireturn, 1) := by decide +kernel
def Nm_act (p1 : Int32) (p2 : Int32) (p3 : Int32) (σ : nm_St) : Option (Int32 × nm_St) :=
  ((Mo_begin 2 p1 p2 p3 σ).bind fun q1 =>
  some (q1.1, q1.2))
set_option maxRecDepth 100000 in
set_option maxHeartbeats 4000000 in
theorem ct_Nm_act (X : nm_X) (p1 : Int32) (p2 : Int32) (p3 : Int32) (σ : nm_St) : Ct X mi_Nm_act 84 nm_wI [.ref 0, .int p1, .int p2, .int p3] σ (Nm_act p1 p2 p3 σ) := by
  refine Ct.of (by decide +kernel) rfl (fun F hF0 => ?_)
  unfold Nm_act
  refine rn_aload_n (pc := 0) 0 dk_Nm_act_0 rfl rfl rfl ?_
  refine gf_Nm_52 (pc := 1) rfl dk_Nm_act_1 ?_
  refine rn_aload_n (pc := 4) 0 dk_Nm_act_4 rfl rfl rfl ?_
  refine gf_Nm_18 (pc := 5) rfl dk_Nm_act_5 ?_
  refine rn_iload_n (pc := 8) 1 dk_Nm_act_8 rfl rfl ?_
  refine rn_iload_n (pc := 9) 2 dk_Nm_act_9 rfl rfl ?_
  refine rn_iload_n (pc := 10) 3 dk_Nm_act_10 rfl rfl ?_
  refine cl_Nm_328 (pc := 11) (As := [.ref 2, .int p1, .int p2, .int p3]) (st := []) rfl (ct_Mo_begin X 2 rfl p1 p2 p3 σ) (Nat.le_trans (Nat.le_of_ble_eq_true rfl) hF0) rfl rfl (Nat.le_of_ble_eq_true rfl) dk_Nm_act_11 (fun q1 => ?_)
  exact rn_iret rfl dk_Nm_act_14
theorem dk_Mo_bodyAt_0 : decode mi_Mo_bodyAt.2.1 0 = .ok (.iload_n 1, 1) := by decide +kernel
theorem dk_Mo_bodyAt_1 : decode mi_Mo_bodyAt.2.1 1 = .ok (.ifCond .lt 26, 3) := by decide +kernel
theorem dk_Mo_bodyAt_4 : decode mi_Mo_bodyAt.2.1 4 = .ok (.iload_n 1, 1) := by decide +kernel
theorem dk_Mo_bodyAt_5 : decode mi_Mo_bodyAt.2.1 5 = .ok (.aload_n 0, 1) := by decide +kernel
theorem dk_Mo_bodyAt_6 : decode mi_Mo_bodyAt.2.1 6 = .ok (.getfield 15, 3) := by decide +kernel
theorem dk_Mo_bodyAt_9 : decode mi_Mo_bodyAt.2.1 9 = .ok (.if_icmp .ge 18, 3) := by decide +kernel
theorem dk_Mo_bodyAt_12 : decode mi_Mo_bodyAt.2.1 12 = .ok (.iload_n 1, 1) := by decide +kernel
theorem dk_Mo_bodyAt_13 : decode mi_Mo_bodyAt.2.1 13 = .ok (.bipush 20, 2) := by decide +kernel
theorem dk_Mo_bodyAt_15 : decode mi_Mo_bodyAt.2.1 15 = .ok (.if_icmp .ge 12, 3) := by decide +kernel
theorem dk_Mo_bodyAt_18 : decode mi_Mo_bodyAt.2.1 18 = .ok (.aload_n 0, 1) := by decide +kernel
theorem dk_Mo_bodyAt_19 : decode mi_Mo_bodyAt.2.1 19 = .ok (.getfield 11, 3) := by decide +kernel
theorem dk_Mo_bodyAt_22 : decode mi_Mo_bodyAt.2.1 22 = .ok (.iload_n 1, 1) := by decide +kernel
theorem dk_Mo_bodyAt_23 : decode mi_Mo_bodyAt.2.1 23 = .ok (.iaload, 1) := by decide +kernel
theorem dk_Mo_bodyAt_24 : decode mi_Mo_bodyAt.2.1 24 = .ok (.goto 4, 3) := by decide +kernel
theorem dk_Mo_bodyAt_27 : decode mi_Mo_bodyAt.2.1 27 = .ok (.iconst (-1), 1) := by decide +kernel
theorem dk_Mo_bodyAt_28 : decode mi_Mo_bodyAt.2.1 28 = .ok (.ireturn, 1) := by decide +kernel
def Mo_bodyAt (p1 : Int32) (σ : nm_St) : Option (Int32 × nm_St) :=
  (if p1 < 0 then
    some ((-1 : Int32), σ)
  else
    (if (σ.1 51 1) ≤ p1 then
      some ((-1 : Int32), σ)
    else
      (if (20 : Int32) ≤ p1 then
        some ((-1 : Int32), σ)
      else
        (nm_g (nm_in p1 20) (
        some ((σ.1 52 p1.toNatClampNeg), σ))))))
set_option maxRecDepth 100000 in
set_option maxHeartbeats 4000000 in
theorem ct_Mo_bodyAt (X : nm_X) (p1 : Int32) (σ : nm_St) : Ct X mi_Mo_bodyAt 0 nm_wI [.ref 51, .int p1] σ (Mo_bodyAt p1 σ) := by
  refine Ct.of (by decide +kernel) rfl (fun F hF0 => ?_)
  unfold Mo_bodyAt
  refine rn_iload_n (pc := 0) 1 dk_Mo_bodyAt_0 rfl rfl ?_
  refine rn_if_lt (pc := 1) 27 dk_Mo_bodyAt_1 (by decide) (fun c1 => ?_) (fun c1 => ?_)
  · refine rn_iconst (pc := 27) (-1 : Int32) dk_Mo_bodyAt_27 cn_i_m1 ?_
    exact rn_iret rfl dk_Mo_bodyAt_28
  · refine rn_iload_n (pc := 4) 1 dk_Mo_bodyAt_4 rfl rfl ?_
    refine rn_aload_n (pc := 5) 0 dk_Mo_bodyAt_5 rfl rfl rfl ?_
    refine gf_Mo_15 (pc := 6) rfl dk_Mo_bodyAt_6 ?_
    refine rn_icmp_ge (pc := 9) 27 dk_Mo_bodyAt_9 (by decide) (fun c2 => ?_) (fun c2 => ?_)
    · refine rn_iconst (pc := 27) (-1 : Int32) dk_Mo_bodyAt_27 cn_i_m1 ?_
      exact rn_iret rfl dk_Mo_bodyAt_28
    · refine rn_iload_n (pc := 12) 1 dk_Mo_bodyAt_12 rfl rfl ?_
      refine rn_bipush (pc := 13) (20 : Int32) dk_Mo_bodyAt_13 cn_b_20 ?_
      refine rn_icmp_ge (pc := 15) 27 dk_Mo_bodyAt_15 (by decide) (fun c3 => ?_) (fun c3 => ?_)
      · refine rn_iconst (pc := 27) (-1 : Int32) dk_Mo_bodyAt_27 cn_i_m1 ?_
        exact rn_iret rfl dk_Mo_bodyAt_28
      · refine rn_aload_n (pc := 18) 0 dk_Mo_bodyAt_18 rfl rfl rfl ?_
        refine gf_Mo_11 (pc := 19) rfl dk_Mo_bodyAt_19 ?_
        refine rn_iload_n (pc := 22) 1 dk_Mo_bodyAt_22 rfl rfl ?_
        refine rn_iaload (pc := 23) rfl dk_Mo_bodyAt_23 (fun g4 => ?_)
        refine rn_goto (pc := 24) 28 dk_Mo_bodyAt_24 (by decide) ?_
        exact rn_iret rfl dk_Mo_bodyAt_28
theorem dk_Nm_trace_0 : decode mi_Nm_trace.2.1 0 = .ok (.aload_n 0, 1) := by decide +kernel
theorem dk_Nm_trace_1 : decode mi_Nm_trace.2.1 1 = .ok (.getfield 52, 3) := by decide +kernel
theorem dk_Nm_trace_4 : decode mi_Nm_trace.2.1 4 = .ok (.iload_n 1, 1) := by decide +kernel
theorem dk_Nm_trace_5 : decode mi_Nm_trace.2.1 5 = .ok (.invokevirtual 332, 3) := by decide +kernel
theorem dk_Nm_trace_8 : decode mi_Nm_trace.2.1 8 = .ok (.ireturn, 1) := by decide +kernel
def Nm_trace (p1 : Int32) (σ : nm_St) : Option (Int32 × nm_St) :=
  ((Mo_bodyAt p1 σ).bind fun q1 =>
  some (q1.1, q1.2))
set_option maxRecDepth 100000 in
set_option maxHeartbeats 4000000 in
theorem ct_Nm_trace (X : nm_X) (p1 : Int32) (σ : nm_St) : Ct X mi_Nm_trace 1 nm_wI [.ref 0, .int p1] σ (Nm_trace p1 σ) := by
  refine Ct.of (by decide +kernel) rfl (fun F hF0 => ?_)
  unfold Nm_trace
  refine rn_aload_n (pc := 0) 0 dk_Nm_trace_0 rfl rfl rfl ?_
  refine gf_Nm_52 (pc := 1) rfl dk_Nm_trace_1 ?_
  refine rn_iload_n (pc := 4) 1 dk_Nm_trace_4 rfl rfl ?_
  refine cl_Nm_332 (pc := 5) (As := [.int p1]) (st := []) rfl (ct_Mo_bodyAt X p1 σ) (Nat.le_trans (Nat.le_of_ble_eq_true rfl) hF0) rfl rfl (Nat.le_of_ble_eq_true rfl) dk_Nm_trace_5 (fun q1 => ?_)
  exact rn_iret rfl dk_Nm_trace_8
theorem dk_Nm_image_0 : decode mi_Nm_image.2.1 0 = .ok (.aload_n 0, 1) := by decide +kernel
theorem dk_Nm_image_1 : decode mi_Nm_image.2.1 1 = .ok (.getfield 22, 3) := by decide +kernel
theorem dk_Nm_image_4 : decode mi_Nm_image.2.1 4 = .ok (.aload_n 0, 1) := by decide +kernel
theorem dk_Nm_image_5 : decode mi_Nm_image.2.1 5 = .ok (.getfield 18, 3) := by decide +kernel
theorem dk_Nm_image_8 : decode mi_Nm_image.2.1 8 = .ok (.invokevirtual 183, 3) := by decide +kernel
theorem dk_Nm_image_11 : decode mi_Nm_image.2.1 11 = .ok (.aload_n 0, 1) := by decide +kernel
theorem dk_Nm_image_12 : decode mi_Nm_image.2.1 12 = .ok (.iconst 1, 1) := by decide +kernel
theorem dk_Nm_image_13 : decode mi_Nm_image.2.1 13 = .ok (.putfield 60, 3) := by decide +kernel
theorem dk_Nm_image_16 : decode mi_Nm_image.2.1 16 = .ok (.aload_n 0, 1) := by decide +kernel
theorem dk_Nm_image_17 : decode mi_Nm_image.2.1 17 = .ok (.getfield 18, 3) := by decide +kernel
theorem dk_Nm_image_20 : decode mi_Nm_image.2.1 20 = .ok (.getfield 319, 3) := by decide +kernel
theorem dk_Nm_image_23 : decode mi_Nm_image.2.1 23 = .ok (.ireturn, 1) := by decide +kernel
def Nm_image (σ : nm_St) : Option (Int32 × nm_St) :=
  ((Is_become 9 2 σ).bind fun q1 =>
  (nm_let (nm_pI q1.2 0 9 (1 : Int32)) fun s2 =>
  some ((s2.1 2 6), s2)))
set_option maxRecDepth 100000 in
set_option maxHeartbeats 4000000 in
theorem ct_Nm_image (X : nm_X) (σ : nm_St) : Ct X mi_Nm_image 2 nm_wI [.ref 0] σ (Nm_image σ) := by
  refine Ct.of (by decide +kernel) rfl (fun F hF0 => ?_)
  unfold Nm_image
  refine rn_aload_n (pc := 0) 0 dk_Nm_image_0 rfl rfl rfl ?_
  refine gf_Nm_22 (pc := 1) rfl dk_Nm_image_1 ?_
  refine rn_aload_n (pc := 4) 0 dk_Nm_image_4 rfl rfl rfl ?_
  refine gf_Nm_18 (pc := 5) rfl dk_Nm_image_5 ?_
  refine cl_Nm_183 (pc := 8) (As := [.ref 2]) (st := []) 9 rfl rfl (ct_Is_become X 9 rfl 2 rfl σ) (Nat.le_trans (Nat.le_of_ble_eq_true rfl) hF0) rfl rfl (Nat.le_of_ble_eq_true rfl) dk_Nm_image_8 (fun q1 => ?_)
  refine rn_aload_n (pc := 11) 0 dk_Nm_image_11 rfl rfl rfl ?_
  refine rn_iconst (pc := 12) (1 : Int32) dk_Nm_image_12 cn_i_1 ?_
  refine pf_Nm_60 (pc := 13) rfl rfl rfl dk_Nm_image_13 ?_
  refine rn_lets (fun s2 => ?_)
  refine rn_aload_n (pc := 16) 0 dk_Nm_image_16 rfl rfl rfl ?_
  refine gf_Nm_18 (pc := 17) rfl dk_Nm_image_17 ?_
  refine gf_Nm_319 (pc := 20) 2 rfl rfl dk_Nm_image_20 ?_
  exact rn_iret rfl dk_Nm_image_23
theorem dk_Nm_restore_0 : decode mi_Nm_restore.2.1 0 = .ok (.aload_n 0, 1) := by decide +kernel
theorem dk_Nm_restore_1 : decode mi_Nm_restore.2.1 1 = .ok (.getfield 60, 3) := by decide +kernel
theorem dk_Nm_restore_4 : decode mi_Nm_restore.2.1 4 = .ok (.ifCond .ne 10, 3) := by decide +kernel
theorem dk_Nm_restore_7 : decode mi_Nm_restore.2.1 7 = .ok (.aload_n 0, 1) := by decide +kernel
theorem dk_Nm_restore_8 : decode mi_Nm_restore.2.1 8 = .ok (.bipush (-6), 2) := by decide +kernel
theorem dk_Nm_restore_10 : decode mi_Nm_restore.2.1 10 = .ok (.invokevirtual 73, 3) := by decide +kernel
theorem dk_Nm_restore_13 : decode mi_Nm_restore.2.1 13 = .ok (.ireturn, 1) := by decide +kernel
theorem dk_Nm_restore_14 : decode mi_Nm_restore.2.1 14 = .ok (.aload_n 0, 1) := by decide +kernel
theorem dk_Nm_restore_15 : decode mi_Nm_restore.2.1 15 = .ok (.getfield 18, 3) := by decide +kernel
theorem dk_Nm_restore_18 : decode mi_Nm_restore.2.1 18 = .ok (.aload_n 0, 1) := by decide +kernel
theorem dk_Nm_restore_19 : decode mi_Nm_restore.2.1 19 = .ok (.getfield 22, 3) := by decide +kernel
theorem dk_Nm_restore_22 : decode mi_Nm_restore.2.1 22 = .ok (.invokevirtual 183, 3) := by decide +kernel
theorem dk_Nm_restore_25 : decode mi_Nm_restore.2.1 25 = .ok (.iconst 0, 1) := by decide +kernel
theorem dk_Nm_restore_26 : decode mi_Nm_restore.2.1 26 = .ok (.istore_n 1, 1) := by decide +kernel
theorem dk_Nm_restore_27 : decode mi_Nm_restore.2.1 27 = .ok (.iload_n 1, 1) := by decide +kernel
theorem dk_Nm_restore_28 : decode mi_Nm_restore.2.1 28 = .ok (.bipush 8, 2) := by decide +kernel
theorem dk_Nm_restore_30 : decode mi_Nm_restore.2.1 30 = .ok (.if_icmp .ge 49, 3) := by decide +kernel
theorem dk_Nm_restore_33 : decode mi_Nm_restore.2.1 33 = .ok (.aload_n 0, 1) := by decide +kernel
theorem dk_Nm_restore_34 : decode mi_Nm_restore.2.1 34 = .ok (.getfield 11, 3) := by decide +kernel
theorem dk_Nm_restore_37 : decode mi_Nm_restore.2.1 37 = .ok (.iload_n 1, 1) := by decide +kernel
theorem dk_Nm_restore_38 : decode mi_Nm_restore.2.1 38 = .ok (.aaload, 1) := by decide +kernel
theorem dk_Nm_restore_39 : decode mi_Nm_restore.2.1 39 = .ok (.invokevirtual 335, 3) := by decide +kernel
theorem dk_Nm_restore_42 : decode mi_Nm_restore.2.1 42 = .ok (.ifCond .eq 31, 3) := by decide +kernel
theorem dk_Nm_restore_45 : decode mi_Nm_restore.2.1 45 = .ok (.aload_n 0, 1) := by decide +kernel
theorem dk_Nm_restore_46 : decode mi_Nm_restore.2.1 46 = .ok (.getfield 18, 3) := by decide +kernel
theorem dk_Nm_restore_49 : decode mi_Nm_restore.2.1 49 = .ok (.aload_n 0, 1) := by decide +kernel
theorem dk_Nm_restore_50 : decode mi_Nm_restore.2.1 50 = .ok (.getfield 11, 3) := by decide +kernel
theorem dk_Nm_restore_53 : decode mi_Nm_restore.2.1 53 = .ok (.iload_n 1, 1) := by decide +kernel
theorem dk_Nm_restore_54 : decode mi_Nm_restore.2.1 54 = .ok (.aaload, 1) := by decide +kernel
theorem dk_Nm_restore_55 : decode mi_Nm_restore.2.1 55 = .ok (.invokevirtual 131, 3) := by decide +kernel
theorem dk_Nm_restore_58 : decode mi_Nm_restore.2.1 58 = .ok (.invokevirtual 107, 3) := by decide +kernel
theorem dk_Nm_restore_61 : decode mi_Nm_restore.2.1 61 = .ok (.ifCond .ne 12, 3) := by decide +kernel
theorem dk_Nm_restore_64 : decode mi_Nm_restore.2.1 64 = .ok (.aload_n 0, 1) := by decide +kernel
theorem dk_Nm_restore_65 : decode mi_Nm_restore.2.1 65 = .ok (.getfield 11, 3) := by decide +kernel
theorem dk_Nm_restore_68 : decode mi_Nm_restore.2.1 68 = .ok (.iload_n 1, 1) := by decide +kernel
theorem dk_Nm_restore_69 : decode mi_Nm_restore.2.1 69 = .ok (.aaload, 1) := by decide +kernel
theorem dk_Nm_restore_70 : decode mi_Nm_restore.2.1 70 = .ok (.invokevirtual 110, 3) := by decide +kernel
theorem dk_Nm_restore_73 : decode mi_Nm_restore.2.1 73 = .ok (.iinc 1 1, 3) := by decide +kernel
theorem dk_Nm_restore_76 : decode mi_Nm_restore.2.1 76 = .ok (.goto (-49), 3) := by decide +kernel
theorem dk_Nm_restore_79 : decode mi_Nm_restore.2.1 79 = .ok (.aload_n 0, 1) := by decide +kernel
theorem dk_Nm_restore_80 : decode mi_Nm_restore.2.1 80 = .ok (.getfield 18, 3) := by decide +kernel
theorem dk_Nm_restore_83 : decode mi_Nm_restore.2.1 83 = .ok (.getfield 319, 3) := by decide +kernel
theorem dk_Nm_restore_86 : decode mi_Nm_restore.2.1 86 = .ok (.ireturn, 1) := by decide +kernel
def Nm_restore_l27 (k_79 : nm_St → Option (Int32 × nm_St)) : Nat → Int32 → nm_St → Option (Int32 × nm_St)
  | 0, _, _ => none
  | n + 1, x1, σ =>
    (if (8 : Int32) ≤ x1 then
      k_79 σ
    else
      (nm_g (nm_in x1 8) (
      ((Sh_isMaker (nm_sf x1) σ).bind fun q5 =>
      (if q5.1 = 0 then
        (Nm_restore_l27 k_79 n) (x1 + (1 : Int32)) q5.2
      else
        (nm_g (nm_in x1 8) (
        ((Sh_whose (nm_sf x1) q5.2).bind fun q8 =>
        ((Is_isMaker 2 q8.1 q8.2).bind fun q9 =>
        (if q9.1 = 0 then
          (nm_g (nm_in x1 8) (
          ((Sh_holdNothing (nm_sf x1) q9.2).bind fun q12 =>
          (Nm_restore_l27 k_79 n) (x1 + (1 : Int32)) q12.2)))
        else
          (Nm_restore_l27 k_79 n) (x1 + (1 : Int32)) q9.2))))))))))
set_option maxRecDepth 100000 in
set_option maxHeartbeats 4000000 in
theorem r_Nm_restore_l27 (X : nm_X) (F : nm_F) (hF0 : 2 ≤ nm_d F) (k_79 : nm_St → Option (Int32 × nm_St)) (hk_79 : ∀ (σ : nm_St), Rn X mi_Nm_restore F (nm_Qf X F nm_wI) [(0, .ref 0)] [] 79 σ (k_79 σ)) : ∀ (n : Nat) (x1 : Int32) (σ : nm_St), Rn X mi_Nm_restore F (nm_Qf X F nm_wI) [(0, .ref 0), (1, .int x1)] [] 27 σ (Nm_restore_l27 k_79 n x1 σ) := by
  intro n
  induction n with
  | zero =>
    intro x1 σ
    exact rn_none
  | succ n ih =>
    intro x1 σ
    unfold Nm_restore_l27
    refine rn_iload_n (pc := 27) 1 dk_Nm_restore_27 rfl rfl ?_
    refine rn_bipush (pc := 28) (8 : Int32) dk_Nm_restore_28 cn_b_8 ?_
    refine rn_icmp_ge (pc := 30) 79 dk_Nm_restore_30 (by decide) (fun c3 => ?_) (fun c3 => ?_)
    · exact rn_sub (by rfl) (hk_79 σ)
    · refine rn_aload_n (pc := 33) 0 dk_Nm_restore_33 rfl rfl rfl ?_
      refine gf_Nm_11 (pc := 34) rfl dk_Nm_restore_34 ?_
      refine rn_iload_n (pc := 37) 1 dk_Nm_restore_37 rfl rfl ?_
      refine rn_aaload (pc := 38) dk_Nm_restore_38 (fun g4 => ?_)
      refine cl_Nm_335 (pc := 39) (As := []) (st := []) (nm_sf x1) (nm_sf_isH g4) rfl (ct_Sh_isMaker X (nm_sf x1) (nm_sf_isH g4) σ) (Nat.le_trans (Nat.le_of_ble_eq_true rfl) hF0) rfl rfl (Nat.le_of_ble_eq_true rfl) dk_Nm_restore_39 (fun q5 => ?_)
      refine rn_if_eq (pc := 42) 73 dk_Nm_restore_42 (by decide) (fun c6 => ?_) (fun c6 => ?_)
      · refine rn_iinc (pc := 73) (1 : Int32) dk_Nm_restore_73 cn_i_1 rfl rfl rfl ?_
        refine rn_goto (pc := 76) 27 dk_Nm_restore_76 (by decide) ?_
        exact rn_sub (by rfl) (ih (x1 + (1 : Int32)) q5.2)
      · refine rn_aload_n (pc := 45) 0 dk_Nm_restore_45 rfl rfl rfl ?_
        refine gf_Nm_18 (pc := 46) rfl dk_Nm_restore_46 ?_
        refine rn_aload_n (pc := 49) 0 dk_Nm_restore_49 rfl rfl rfl ?_
        refine gf_Nm_11 (pc := 50) rfl dk_Nm_restore_50 ?_
        refine rn_iload_n (pc := 53) 1 dk_Nm_restore_53 rfl rfl ?_
        refine rn_aaload (pc := 54) dk_Nm_restore_54 (fun g7 => ?_)
        refine cl_Nm_131 (pc := 55) (As := []) (st := [.ref 2]) (nm_sf x1) (nm_sf_isH g7) rfl (ct_Sh_whose X (nm_sf x1) (nm_sf_isH g7) q5.2) (Nat.le_trans (Nat.le_of_ble_eq_true rfl) hF0) rfl rfl (Nat.le_of_ble_eq_true rfl) dk_Nm_restore_55 (fun q8 => ?_)
        refine cl_Nm_107 (pc := 58) (As := [.int q8.1]) (st := []) 2 rfl rfl (ct_Is_isMaker X 2 rfl q8.1 q8.2) (Nat.le_trans (Nat.le_of_ble_eq_true rfl) hF0) rfl rfl (Nat.le_of_ble_eq_true rfl) dk_Nm_restore_58 (fun q9 => ?_)
        refine rn_if_ne (pc := 61) 73 dk_Nm_restore_61 (by decide) (fun c10 => ?_) (fun c10 => ?_)
        · refine rn_iinc (pc := 73) (1 : Int32) dk_Nm_restore_73 cn_i_1 rfl rfl rfl ?_
          refine rn_goto (pc := 76) 27 dk_Nm_restore_76 (by decide) ?_
          exact rn_sub (by rfl) (ih (x1 + (1 : Int32)) q9.2)
        · refine rn_aload_n (pc := 64) 0 dk_Nm_restore_64 rfl rfl rfl ?_
          refine gf_Nm_11 (pc := 65) rfl dk_Nm_restore_65 ?_
          refine rn_iload_n (pc := 68) 1 dk_Nm_restore_68 rfl rfl ?_
          refine rn_aaload (pc := 69) dk_Nm_restore_69 (fun g11 => ?_)
          refine cl_Nm_110 (pc := 70) (As := []) (st := []) (nm_sf x1) (nm_sf_isH g11) rfl (ct_Sh_holdNothing X (nm_sf x1) (nm_sf_isH g11) q9.2) (Nat.le_trans (Nat.le_of_ble_eq_true rfl) hF0) rfl rfl (Nat.le_of_ble_eq_true rfl) dk_Nm_restore_70 (fun q12 => ?_)
          refine rn_iinc (pc := 73) (1 : Int32) dk_Nm_restore_73 cn_i_1 rfl rfl rfl ?_
          refine rn_goto (pc := 76) 27 dk_Nm_restore_76 (by decide) ?_
          exact rn_sub (by rfl) (ih (x1 + (1 : Int32)) q12.2)
def Nm_restore (σ : nm_St) : Option (Int32 × nm_St) :=
  (if (σ.1 0 9) = 0 then
    ((Nm_refuse (-6 : Int32) σ).bind fun q14 =>
    some (q14.1, q14.2))
  else
    ((Is_become 2 9 σ).bind fun q2 =>
    Nm_restore_l27 (fun (s13 : nm_St) =>
      some ((s13.1 2 6), s13)) 400 (0 : Int32) q2.2))
set_option maxRecDepth 100000 in
set_option maxHeartbeats 4000000 in
theorem ct_Nm_restore (X : nm_X) (σ : nm_St) : Ct X mi_Nm_restore 2 nm_wI [.ref 0] σ (Nm_restore σ) := by
  refine Ct.of (by decide +kernel) rfl (fun F hF0 => ?_)
  unfold Nm_restore
  refine rn_aload_n (pc := 0) 0 dk_Nm_restore_0 rfl rfl rfl ?_
  refine gf_Nm_60 (pc := 1) rfl dk_Nm_restore_1 ?_
  refine rn_if_ne (pc := 4) 14 dk_Nm_restore_4 (by decide) (fun c1 => ?_) (fun c1 => ?_)
  · refine rn_aload_n (pc := 14) 0 dk_Nm_restore_14 rfl rfl rfl ?_
    refine gf_Nm_18 (pc := 15) rfl dk_Nm_restore_15 ?_
    refine rn_aload_n (pc := 18) 0 dk_Nm_restore_18 rfl rfl rfl ?_
    refine gf_Nm_22 (pc := 19) rfl dk_Nm_restore_19 ?_
    refine cl_Nm_183 (pc := 22) (As := [.ref 9]) (st := []) 2 rfl rfl (ct_Is_become X 2 rfl 9 rfl σ) (Nat.le_trans (Nat.le_of_ble_eq_true rfl) hF0) rfl rfl (Nat.le_of_ble_eq_true rfl) dk_Nm_restore_22 (fun q2 => ?_)
    refine rn_iconst (pc := 25) (0 : Int32) dk_Nm_restore_25 cn_i_0 ?_
    refine rn_istore_n (pc := 26) 1 dk_Nm_restore_26 rfl rfl rfl ?_
    refine rn_sub (by rfl) (r_Nm_restore_l27 X F hF0 _ (fun s13 => ?_) 400 (0 : Int32) q2.2)
    refine rn_aload_n (pc := 79) 0 dk_Nm_restore_79 rfl rfl rfl ?_
    refine gf_Nm_18 (pc := 80) rfl dk_Nm_restore_80 ?_
    refine gf_Nm_319 (pc := 83) 2 rfl rfl dk_Nm_restore_83 ?_
    exact rn_iret rfl dk_Nm_restore_86
  · refine rn_aload_n (pc := 7) 0 dk_Nm_restore_7 rfl rfl rfl ?_
    refine rn_bipush (pc := 8) (-6 : Int32) dk_Nm_restore_8 cn_b_m6 ?_
    refine cl_Nm_73 (pc := 10) (As := [.int (-6 : Int32)]) (st := []) rfl (ct_Nm_refuse X (-6 : Int32) σ) (Nat.le_trans (Nat.le_of_ble_eq_true rfl) hF0) rfl rfl (Nat.le_of_ble_eq_true rfl) dk_Nm_restore_10 (fun q14 => ?_)
    exact rn_iret rfl dk_Nm_restore_13
theorem dk_Nm_status_0 : decode mi_Nm_status.2.1 0 = .ok (.iload_n 1, 1) := by decide +kernel
theorem dk_Nm_status_1 : decode mi_Nm_status.2.1 1 = .ok (.tableswitch 147 0 9 #[55, 63, 71, 83, 95, 107, 115, 123, 131, 139], 55) := by decide +kernel
theorem dk_Nm_status_56 : decode mi_Nm_status.2.1 56 = .ok (.aload_n 0, 1) := by decide +kernel
theorem dk_Nm_status_57 : decode mi_Nm_status.2.1 57 = .ok (.getfield 18, 3) := by decide +kernel
theorem dk_Nm_status_60 : decode mi_Nm_status.2.1 60 = .ok (.getfield 319, 3) := by decide +kernel
theorem dk_Nm_status_63 : decode mi_Nm_status.2.1 63 = .ok (.ireturn, 1) := by decide +kernel
theorem dk_Nm_status_64 : decode mi_Nm_status.2.1 64 = .ok (.aload_n 0, 1) := by decide +kernel
theorem dk_Nm_status_65 : decode mi_Nm_status.2.1 65 = .ok (.getfield 18, 3) := by decide +kernel
theorem dk_Nm_status_68 : decode mi_Nm_status.2.1 68 = .ok (.getfield 155, 3) := by decide +kernel
theorem dk_Nm_status_71 : decode mi_Nm_status.2.1 71 = .ok (.ireturn, 1) := by decide +kernel
theorem dk_Nm_status_72 : decode mi_Nm_status.2.1 72 = .ok (.aload_n 0, 1) := by decide +kernel
theorem dk_Nm_status_73 : decode mi_Nm_status.2.1 73 = .ok (.getfield 18, 3) := by decide +kernel
theorem dk_Nm_status_76 : decode mi_Nm_status.2.1 76 = .ok (.iconst 0, 1) := by decide +kernel
theorem dk_Nm_status_77 : decode mi_Nm_status.2.1 77 = .ok (.invokevirtual 199, 3) := by decide +kernel
theorem dk_Nm_status_80 : decode mi_Nm_status.2.1 80 = .ok (.invokestatic 337, 3) := by decide +kernel
theorem dk_Nm_status_83 : decode mi_Nm_status.2.1 83 = .ok (.ireturn, 1) := by decide +kernel
theorem dk_Nm_status_84 : decode mi_Nm_status.2.1 84 = .ok (.aload_n 0, 1) := by decide +kernel
theorem dk_Nm_status_85 : decode mi_Nm_status.2.1 85 = .ok (.getfield 18, 3) := by decide +kernel
theorem dk_Nm_status_88 : decode mi_Nm_status.2.1 88 = .ok (.iconst 1, 1) := by decide +kernel
theorem dk_Nm_status_89 : decode mi_Nm_status.2.1 89 = .ok (.invokevirtual 199, 3) := by decide +kernel
theorem dk_Nm_status_92 : decode mi_Nm_status.2.1 92 = .ok (.invokestatic 337, 3) := by decide +kernel
theorem dk_Nm_status_95 : decode mi_Nm_status.2.1 95 = .ok (.ireturn, 1) := by decide +kernel
theorem dk_Nm_status_96 : decode mi_Nm_status.2.1 96 = .ok (.aload_n 0, 1) := by decide +kernel
theorem dk_Nm_status_97 : decode mi_Nm_status.2.1 97 = .ok (.getfield 18, 3) := by decide +kernel
theorem dk_Nm_status_100 : decode mi_Nm_status.2.1 100 = .ok (.iconst 3, 1) := by decide +kernel
theorem dk_Nm_status_101 : decode mi_Nm_status.2.1 101 = .ok (.invokevirtual 199, 3) := by decide +kernel
theorem dk_Nm_status_104 : decode mi_Nm_status.2.1 104 = .ok (.invokestatic 337, 3) := by decide +kernel
theorem dk_Nm_status_107 : decode mi_Nm_status.2.1 107 = .ok (.ireturn, 1) := by decide +kernel
theorem dk_Nm_status_108 : decode mi_Nm_status.2.1 108 = .ok (.aload_n 0, 1) := by decide +kernel
theorem dk_Nm_status_109 : decode mi_Nm_status.2.1 109 = .ok (.getfield 18, 3) := by decide +kernel
theorem dk_Nm_status_112 : decode mi_Nm_status.2.1 112 = .ok (.getfield 168, 3) := by decide +kernel
theorem dk_Nm_status_115 : decode mi_Nm_status.2.1 115 = .ok (.ireturn, 1) := by decide +kernel
theorem dk_Nm_status_116 : decode mi_Nm_status.2.1 116 = .ok (.aload_n 0, 1) := by decide +kernel
theorem dk_Nm_status_117 : decode mi_Nm_status.2.1 117 = .ok (.getfield 18, 3) := by decide +kernel
theorem dk_Nm_status_120 : decode mi_Nm_status.2.1 120 = .ok (.getfield 171, 3) := by decide +kernel
theorem dk_Nm_status_123 : decode mi_Nm_status.2.1 123 = .ok (.ireturn, 1) := by decide +kernel
theorem dk_Nm_status_124 : decode mi_Nm_status.2.1 124 = .ok (.aload_n 0, 1) := by decide +kernel
theorem dk_Nm_status_125 : decode mi_Nm_status.2.1 125 = .ok (.getfield 18, 3) := by decide +kernel
theorem dk_Nm_status_128 : decode mi_Nm_status.2.1 128 = .ok (.getfield 298, 3) := by decide +kernel
theorem dk_Nm_status_131 : decode mi_Nm_status.2.1 131 = .ok (.ireturn, 1) := by decide +kernel
theorem dk_Nm_status_132 : decode mi_Nm_status.2.1 132 = .ok (.aload_n 0, 1) := by decide +kernel
theorem dk_Nm_status_133 : decode mi_Nm_status.2.1 133 = .ok (.getfield 18, 3) := by decide +kernel
theorem dk_Nm_status_136 : decode mi_Nm_status.2.1 136 = .ok (.getfield 325, 3) := by decide +kernel
theorem dk_Nm_status_139 : decode mi_Nm_status.2.1 139 = .ok (.ireturn, 1) := by decide +kernel
theorem dk_Nm_status_140 : decode mi_Nm_status.2.1 140 = .ok (.aload_n 0, 1) := by decide +kernel
theorem dk_Nm_status_141 : decode mi_Nm_status.2.1 141 = .ok (.getfield 52, 3) := by decide +kernel
theorem dk_Nm_status_144 : decode mi_Nm_status.2.1 144 = .ok (.getfield 342, 3) := by decide +kernel
theorem dk_Nm_status_147 : decode mi_Nm_status.2.1 147 = .ok (.ireturn, 1) := by decide +kernel
theorem dk_Nm_status_148 : decode mi_Nm_status.2.1 148 = .ok (.iload_n 1, 1) := by decide +kernel
theorem dk_Nm_status_149 : decode mi_Nm_status.2.1 149 = .ok (.bipush 11, 2) := by decide +kernel
theorem dk_Nm_status_151 : decode mi_Nm_status.2.1 151 = .ok (.bipush 17, 2) := by decide +kernel
theorem dk_Nm_status_153 : decode mi_Nm_status.2.1 153 = .ok (.invokestatic 144, 3) := by decide +kernel
theorem dk_Nm_status_156 : decode mi_Nm_status.2.1 156 = .ok (.ifCond .eq 15, 3) := by decide +kernel
theorem dk_Nm_status_159 : decode mi_Nm_status.2.1 159 = .ok (.aload_n 0, 1) := by decide +kernel
theorem dk_Nm_status_160 : decode mi_Nm_status.2.1 160 = .ok (.getfield 56, 3) := by decide +kernel
theorem dk_Nm_status_163 : decode mi_Nm_status.2.1 163 = .ok (.iload_n 1, 1) := by decide +kernel
theorem dk_Nm_status_164 : decode mi_Nm_status.2.1 164 = .ok (.bipush 10, 2) := by decide +kernel
theorem dk_Nm_status_166 : decode mi_Nm_status.2.1 166 = .ok (.isub, 1) := by decide +kernel
theorem dk_Nm_status_167 : decode mi_Nm_status.2.1 167 = .ok (.iaload, 1) := by decide +kernel
theorem dk_Nm_status_168 : decode mi_Nm_status.2.1 168 = .ok (.goto 4, 3) := by decide +kernel
theorem dk_Nm_status_171 : decode mi_Nm_status.2.1 171 = .ok (.iconst (-1), 1) := by decide +kernel
theorem dk_Nm_status_172 : decode mi_Nm_status.2.1 172 = .ok (.ireturn, 1) := by decide +kernel
def Nm_status (p1 : Int32) (σ : nm_St) : Option (Int32 × nm_St) :=
  (if p1 = (0 : Int32) then
    some ((σ.1 2 6), σ)
  else
  (if p1 = (1 : Int32) then
    some ((σ.1 2 7), σ)
  else
  (if p1 = (2 : Int32) then
    ((Is_thoseAt 2 (0 : Int32) σ).bind fun q2 =>
    ((Ji_bitCount q2.1 q2.2).bind fun q3 =>
    some (q3.1, q3.2)))
  else
  (if p1 = (3 : Int32) then
    ((Is_thoseAt 2 (1 : Int32) σ).bind fun q4 =>
    ((Ji_bitCount q4.1 q4.2).bind fun q5 =>
    some (q5.1, q5.2)))
  else
  (if p1 = (4 : Int32) then
    ((Is_thoseAt 2 (3 : Int32) σ).bind fun q6 =>
    ((Ji_bitCount q6.1 q6.2).bind fun q7 =>
    some (q7.1, q7.2)))
  else
  (if p1 = (5 : Int32) then
    some ((σ.1 2 8), σ)
  else
  (if p1 = (6 : Int32) then
    some ((σ.1 2 9), σ)
  else
  (if p1 = (7 : Int32) then
    some ((σ.1 2 10), σ)
  else
  (if p1 = (8 : Int32) then
    some ((σ.1 2 11), σ)
  else
  (if p1 = (9 : Int32) then
    some ((σ.1 51 1), σ)
  else
    ((Nm_isWithin p1 (11 : Int32) (17 : Int32) σ).bind fun q8 =>
    (if q8.1 = 0 then
      some ((-1 : Int32), q8.2)
    else
      (nm_g (nm_in (p1 - (10 : Int32)) 8) (
      some ((q8.2.1 53 (p1 - (10 : Int32)).toNatClampNeg), q8.2)))))))))))))))
set_option maxRecDepth 100000 in
set_option maxHeartbeats 4000000 in
theorem ct_Nm_status (X : nm_X) (p1 : Int32) (σ : nm_St) : Ct X mi_Nm_status 2 nm_wI [.ref 0, .int p1] σ (Nm_status p1 σ) := by
  refine Ct.of (by decide +kernel) rfl (fun F hF0 => ?_)
  unfold Nm_status
  refine rn_iload_n (pc := 0) 1 dk_Nm_status_0 rfl rfl ?_
  refine rn_tcase (pc := 1) 0 (0 : Int32) 56 dk_Nm_status_1 (by decide) (by decide) rfl (by decide) (fun c1_0 => ?_) (fun c1_0 => ?_)
  · refine rn_aload_n (pc := 56) 0 dk_Nm_status_56 rfl rfl rfl ?_
    refine gf_Nm_18 (pc := 57) rfl dk_Nm_status_57 ?_
    refine gf_Nm_319 (pc := 60) 2 rfl rfl dk_Nm_status_60 ?_
    exact rn_iret rfl dk_Nm_status_63
  refine rn_tcase (pc := 1) 1 (1 : Int32) 64 dk_Nm_status_1 (by decide) (by decide) rfl (by decide) (fun c1_1 => ?_) (fun c1_1 => ?_)
  · refine rn_aload_n (pc := 64) 0 dk_Nm_status_64 rfl rfl rfl ?_
    refine gf_Nm_18 (pc := 65) rfl dk_Nm_status_65 ?_
    refine gf_Nm_155 (pc := 68) 2 rfl rfl dk_Nm_status_68 ?_
    exact rn_iret rfl dk_Nm_status_71
  refine rn_tcase (pc := 1) 2 (2 : Int32) 72 dk_Nm_status_1 (by decide) (by decide) rfl (by decide) (fun c1_2 => ?_) (fun c1_2 => ?_)
  · refine rn_aload_n (pc := 72) 0 dk_Nm_status_72 rfl rfl rfl ?_
    refine gf_Nm_18 (pc := 73) rfl dk_Nm_status_73 ?_
    refine rn_iconst (pc := 76) (0 : Int32) dk_Nm_status_76 cn_i_0 ?_
    refine cl_Nm_199 (pc := 77) (As := [.int (0 : Int32)]) (st := []) 2 rfl rfl (ct_Is_thoseAt X 2 rfl (0 : Int32) σ) (Nat.le_trans (Nat.le_of_ble_eq_true rfl) hF0) rfl rfl (Nat.le_of_ble_eq_true rfl) dk_Nm_status_77 (fun q2 => ?_)
    refine cl_Nm_337 (pc := 80) (As := [.int q2.1]) (st := []) rfl (ct_Ji_bitCount X q2.1 q2.2) (Nat.le_trans (Nat.le_of_ble_eq_true rfl) hF0) rfl rfl (Nat.le_of_ble_eq_true rfl) dk_Nm_status_80 (fun q3 => ?_)
    exact rn_iret rfl dk_Nm_status_83
  refine rn_tcase (pc := 1) 3 (3 : Int32) 84 dk_Nm_status_1 (by decide) (by decide) rfl (by decide) (fun c1_3 => ?_) (fun c1_3 => ?_)
  · refine rn_aload_n (pc := 84) 0 dk_Nm_status_84 rfl rfl rfl ?_
    refine gf_Nm_18 (pc := 85) rfl dk_Nm_status_85 ?_
    refine rn_iconst (pc := 88) (1 : Int32) dk_Nm_status_88 cn_i_1 ?_
    refine cl_Nm_199 (pc := 89) (As := [.int (1 : Int32)]) (st := []) 2 rfl rfl (ct_Is_thoseAt X 2 rfl (1 : Int32) σ) (Nat.le_trans (Nat.le_of_ble_eq_true rfl) hF0) rfl rfl (Nat.le_of_ble_eq_true rfl) dk_Nm_status_89 (fun q4 => ?_)
    refine cl_Nm_337 (pc := 92) (As := [.int q4.1]) (st := []) rfl (ct_Ji_bitCount X q4.1 q4.2) (Nat.le_trans (Nat.le_of_ble_eq_true rfl) hF0) rfl rfl (Nat.le_of_ble_eq_true rfl) dk_Nm_status_92 (fun q5 => ?_)
    exact rn_iret rfl dk_Nm_status_95
  refine rn_tcase (pc := 1) 4 (4 : Int32) 96 dk_Nm_status_1 (by decide) (by decide) rfl (by decide) (fun c1_4 => ?_) (fun c1_4 => ?_)
  · refine rn_aload_n (pc := 96) 0 dk_Nm_status_96 rfl rfl rfl ?_
    refine gf_Nm_18 (pc := 97) rfl dk_Nm_status_97 ?_
    refine rn_iconst (pc := 100) (3 : Int32) dk_Nm_status_100 cn_i_3 ?_
    refine cl_Nm_199 (pc := 101) (As := [.int (3 : Int32)]) (st := []) 2 rfl rfl (ct_Is_thoseAt X 2 rfl (3 : Int32) σ) (Nat.le_trans (Nat.le_of_ble_eq_true rfl) hF0) rfl rfl (Nat.le_of_ble_eq_true rfl) dk_Nm_status_101 (fun q6 => ?_)
    refine cl_Nm_337 (pc := 104) (As := [.int q6.1]) (st := []) rfl (ct_Ji_bitCount X q6.1 q6.2) (Nat.le_trans (Nat.le_of_ble_eq_true rfl) hF0) rfl rfl (Nat.le_of_ble_eq_true rfl) dk_Nm_status_104 (fun q7 => ?_)
    exact rn_iret rfl dk_Nm_status_107
  refine rn_tcase (pc := 1) 5 (5 : Int32) 108 dk_Nm_status_1 (by decide) (by decide) rfl (by decide) (fun c1_5 => ?_) (fun c1_5 => ?_)
  · refine rn_aload_n (pc := 108) 0 dk_Nm_status_108 rfl rfl rfl ?_
    refine gf_Nm_18 (pc := 109) rfl dk_Nm_status_109 ?_
    refine gf_Nm_168 (pc := 112) 2 rfl rfl dk_Nm_status_112 ?_
    exact rn_iret rfl dk_Nm_status_115
  refine rn_tcase (pc := 1) 6 (6 : Int32) 116 dk_Nm_status_1 (by decide) (by decide) rfl (by decide) (fun c1_6 => ?_) (fun c1_6 => ?_)
  · refine rn_aload_n (pc := 116) 0 dk_Nm_status_116 rfl rfl rfl ?_
    refine gf_Nm_18 (pc := 117) rfl dk_Nm_status_117 ?_
    refine gf_Nm_171 (pc := 120) 2 rfl rfl dk_Nm_status_120 ?_
    exact rn_iret rfl dk_Nm_status_123
  refine rn_tcase (pc := 1) 7 (7 : Int32) 124 dk_Nm_status_1 (by decide) (by decide) rfl (by decide) (fun c1_7 => ?_) (fun c1_7 => ?_)
  · refine rn_aload_n (pc := 124) 0 dk_Nm_status_124 rfl rfl rfl ?_
    refine gf_Nm_18 (pc := 125) rfl dk_Nm_status_125 ?_
    refine gf_Nm_298 (pc := 128) 2 rfl rfl dk_Nm_status_128 ?_
    exact rn_iret rfl dk_Nm_status_131
  refine rn_tcase (pc := 1) 8 (8 : Int32) 132 dk_Nm_status_1 (by decide) (by decide) rfl (by decide) (fun c1_8 => ?_) (fun c1_8 => ?_)
  · refine rn_aload_n (pc := 132) 0 dk_Nm_status_132 rfl rfl rfl ?_
    refine gf_Nm_18 (pc := 133) rfl dk_Nm_status_133 ?_
    refine gf_Nm_325 (pc := 136) 2 rfl rfl dk_Nm_status_136 ?_
    exact rn_iret rfl dk_Nm_status_139
  refine rn_tcase (pc := 1) 9 (9 : Int32) 140 dk_Nm_status_1 (by decide) (by decide) rfl (by decide) (fun c1_9 => ?_) (fun c1_9 => ?_)
  · refine rn_aload_n (pc := 140) 0 dk_Nm_status_140 rfl rfl rfl ?_
    refine gf_Nm_52 (pc := 141) rfl dk_Nm_status_141 ?_
    refine gf_Nm_342 (pc := 144) rfl dk_Nm_status_144 ?_
    exact rn_iret rfl dk_Nm_status_147
  refine rn_tdef (pc := 1) [(0 : Int32), (1 : Int32), (2 : Int32), (3 : Int32), (4 : Int32), (5 : Int32), (6 : Int32), (7 : Int32), (8 : Int32), (9 : Int32)] 148 dk_Nm_status_1 (by decide) (by decide) (List.forall_mem_cons.mpr ⟨c1_0, (List.forall_mem_cons.mpr ⟨c1_1, (List.forall_mem_cons.mpr ⟨c1_2, (List.forall_mem_cons.mpr ⟨c1_3, (List.forall_mem_cons.mpr ⟨c1_4, (List.forall_mem_cons.mpr ⟨c1_5, (List.forall_mem_cons.mpr ⟨c1_6, (List.forall_mem_cons.mpr ⟨c1_7, (List.forall_mem_cons.mpr ⟨c1_8, (List.forall_mem_cons.mpr ⟨c1_9, (fun _ h => absurd h List.not_mem_nil)⟩)⟩)⟩)⟩)⟩)⟩)⟩)⟩)⟩)⟩) (by decide) ?_
  refine rn_iload_n (pc := 148) 1 dk_Nm_status_148 rfl rfl ?_
  refine rn_bipush (pc := 149) (11 : Int32) dk_Nm_status_149 cn_b_11 ?_
  refine rn_bipush (pc := 151) (17 : Int32) dk_Nm_status_151 cn_b_17 ?_
  refine cl_Nm_144 (pc := 153) (As := [.int p1, .int (11 : Int32), .int (17 : Int32)]) (st := []) rfl (ct_Nm_isWithin X p1 (11 : Int32) (17 : Int32) σ) (Nat.le_trans (Nat.le_of_ble_eq_true rfl) hF0) rfl rfl (Nat.le_of_ble_eq_true rfl) dk_Nm_status_153 (fun q8 => ?_)
  refine rn_if_eq (pc := 156) 171 dk_Nm_status_156 (by decide) (fun c9 => ?_) (fun c9 => ?_)
  · refine rn_iconst (pc := 171) (-1 : Int32) dk_Nm_status_171 cn_i_m1 ?_
    exact rn_iret rfl dk_Nm_status_172
  · refine rn_aload_n (pc := 159) 0 dk_Nm_status_159 rfl rfl rfl ?_
    refine gf_Nm_56 (pc := 160) rfl dk_Nm_status_160 ?_
    refine rn_iload_n (pc := 163) 1 dk_Nm_status_163 rfl rfl ?_
    refine rn_bipush (pc := 164) (10 : Int32) dk_Nm_status_164 cn_b_10 ?_
    refine rn_isub (pc := 166) dk_Nm_status_166 ?_
    refine rn_iaload (pc := 167) rfl dk_Nm_status_167 (fun g10 => ?_)
    refine rn_goto (pc := 168) 172 dk_Nm_status_168 (by decide) ?_
    exact rn_iret rfl dk_Nm_status_172
