theorem dk_Md_selling_0 : decode mi_Md_selling.2.1 0 = .ok (.aload_n 0, 1) := by decide +kernel
theorem dk_Md_selling_1 : decode mi_Md_selling.2.1 1 = .ok (.getfield 26, 3) := by decide +kernel
theorem dk_Md_selling_4 : decode mi_Md_selling.2.1 4 = .ok (.iload_n 1, 1) := by decide +kernel
theorem dk_Md_selling_5 : decode mi_Md_selling.2.1 5 = .ok (.iaload, 1) := by decide +kernel
theorem dk_Md_selling_6 : decode mi_Md_selling.2.1 6 = .ok (.istore_n 3, 1) := by decide +kernel
theorem dk_Md_selling_7 : decode mi_Md_selling.2.1 7 = .ok (.iload_n 2, 1) := by decide +kernel
theorem dk_Md_selling_8 : decode mi_Md_selling.2.1 8 = .ok (.istore 4, 2) := by decide +kernel
theorem dk_Md_selling_10 : decode mi_Md_selling.2.1 10 = .ok (.iload_n 3, 1) := by decide +kernel
theorem dk_Md_selling_11 : decode mi_Md_selling.2.1 11 = .ok (.bipush 6, 2) := by decide +kernel
theorem dk_Md_selling_13 : decode mi_Md_selling.2.1 13 = .ok (.if_icmp .ne 19, 3) := by decide +kernel
theorem dk_Md_selling_16 : decode mi_Md_selling.2.1 16 = .ok (.aload_n 0, 1) := by decide +kernel
theorem dk_Md_selling_17 : decode mi_Md_selling.2.1 17 = .ok (.bipush 71, 2) := by decide +kernel
theorem dk_Md_selling_19 : decode mi_Md_selling.2.1 19 = .ok (.invokevirtual 265, 3) := by decide +kernel
theorem dk_Md_selling_22 : decode mi_Md_selling.2.1 22 = .ok (.iload_n 2, 1) := by decide +kernel
theorem dk_Md_selling_23 : decode mi_Md_selling.2.1 23 = .ok (.aload_n 0, 1) := by decide +kernel
theorem dk_Md_selling_24 : decode mi_Md_selling.2.1 24 = .ok (.getfield 29, 3) := by decide +kernel
theorem dk_Md_selling_27 : decode mi_Md_selling.2.1 27 = .ok (.iload_n 1, 1) := by decide +kernel
theorem dk_Md_selling_28 : decode mi_Md_selling.2.1 28 = .ok (.iaload, 1) := by decide +kernel
theorem dk_Md_selling_29 : decode mi_Md_selling.2.1 29 = .ok (.isub, 1) := by decide +kernel
theorem dk_Md_selling_30 : decode mi_Md_selling.2.1 30 = .ok (.istore 4, 2) := by decide +kernel
theorem dk_Md_selling_32 : decode mi_Md_selling.2.1 32 = .ok (.iload_n 3, 1) := by decide +kernel
theorem dk_Md_selling_33 : decode mi_Md_selling.2.1 33 = .ok (.iconst 3, 1) := by decide +kernel
theorem dk_Md_selling_34 : decode mi_Md_selling.2.1 34 = .ok (.if_icmp .ne 14, 3) := by decide +kernel
theorem dk_Md_selling_37 : decode mi_Md_selling.2.1 37 = .ok (.aload_n 0, 1) := by decide +kernel
theorem dk_Md_selling_38 : decode mi_Md_selling.2.1 38 = .ok (.bipush 40, 2) := by decide +kernel
theorem dk_Md_selling_40 : decode mi_Md_selling.2.1 40 = .ok (.invokevirtual 265, 3) := by decide +kernel
theorem dk_Md_selling_43 : decode mi_Md_selling.2.1 43 = .ok (.iload_n 2, 1) := by decide +kernel
theorem dk_Md_selling_44 : decode mi_Md_selling.2.1 44 = .ok (.iconst 1, 1) := by decide +kernel
theorem dk_Md_selling_45 : decode mi_Md_selling.2.1 45 = .ok (.iadd, 1) := by decide +kernel
theorem dk_Md_selling_46 : decode mi_Md_selling.2.1 46 = .ok (.istore 4, 2) := by decide +kernel
theorem dk_Md_selling_48 : decode mi_Md_selling.2.1 48 = .ok (.aload_n 0, 1) := by decide +kernel
theorem dk_Md_selling_49 : decode mi_Md_selling.2.1 49 = .ok (.iload_n 1, 1) := by decide +kernel
theorem dk_Md_selling_50 : decode mi_Md_selling.2.1 50 = .ok (.invokevirtual 239, 3) := by decide +kernel
theorem dk_Md_selling_53 : decode mi_Md_selling.2.1 53 = .ok (.ifCond .eq 9, 3) := by decide +kernel
theorem dk_Md_selling_56 : decode mi_Md_selling.2.1 56 = .ok (.aload_n 0, 1) := by decide +kernel
theorem dk_Md_selling_57 : decode mi_Md_selling.2.1 57 = .ok (.bipush 30, 2) := by decide +kernel
theorem dk_Md_selling_59 : decode mi_Md_selling.2.1 59 = .ok (.invokevirtual 265, 3) := by decide +kernel
theorem dk_Md_selling_62 : decode mi_Md_selling.2.1 62 = .ok (.aload_n 0, 1) := by decide +kernel
theorem dk_Md_selling_63 : decode mi_Md_selling.2.1 63 = .ok (.bipush 11, 2) := by decide +kernel
theorem dk_Md_selling_65 : decode mi_Md_selling.2.1 65 = .ok (.invokevirtual 265, 3) := by decide +kernel
theorem dk_Md_selling_68 : decode mi_Md_selling.2.1 68 = .ok (.aload_n 0, 1) := by decide +kernel
theorem dk_Md_selling_69 : decode mi_Md_selling.2.1 69 = .ok (.iload_n 1, 1) := by decide +kernel
theorem dk_Md_selling_70 : decode mi_Md_selling.2.1 70 = .ok (.iload 4, 2) := by decide +kernel
theorem dk_Md_selling_72 : decode mi_Md_selling.2.1 72 = .ok (.invokevirtual 268, 3) := by decide +kernel
theorem dk_Md_selling_75 : decode mi_Md_selling.2.1 75 = .ok (.iconst 2, 1) := by decide +kernel
theorem dk_Md_selling_76 : decode mi_Md_selling.2.1 76 = .ok (.imul, 1) := by decide +kernel
theorem dk_Md_selling_77 : decode mi_Md_selling.2.1 77 = .ok (.istore 5, 2) := by decide +kernel
theorem dk_Md_selling_79 : decode mi_Md_selling.2.1 79 = .ok (.aload_n 0, 1) := by decide +kernel
theorem dk_Md_selling_80 : decode mi_Md_selling.2.1 80 = .ok (.iload_n 1, 1) := by decide +kernel
theorem dk_Md_selling_81 : decode mi_Md_selling.2.1 81 = .ok (.invokevirtual 239, 3) := by decide +kernel
theorem dk_Md_selling_84 : decode mi_Md_selling.2.1 84 = .ok (.ifCond .eq 10, 3) := by decide +kernel
theorem dk_Md_selling_87 : decode mi_Md_selling.2.1 87 = .ok (.iload 5, 2) := by decide +kernel
theorem dk_Md_selling_89 : decode mi_Md_selling.2.1 89 = .ok (.iconst 3, 1) := by decide +kernel
theorem dk_Md_selling_90 : decode mi_Md_selling.2.1 90 = .ok (.imul, 1) := by decide +kernel
theorem dk_Md_selling_91 : decode mi_Md_selling.2.1 91 = .ok (.goto 5, 3) := by decide +kernel
theorem dk_Md_selling_94 : decode mi_Md_selling.2.1 94 = .ok (.iload 5, 2) := by decide +kernel
theorem dk_Md_selling_96 : decode mi_Md_selling.2.1 96 = .ok (.ireturn, 1) := by decide +kernel
def Md_selling_j62 (x1 : Int32) (x4 : Int32) (σ : nm_St) : Option (Int32 × nm_St) :=
  ((Md_body (11 : Int32) σ).bind fun q7 =>
  ((Md_blowing x1 x4 q7.2).bind fun q8 =>
  (nm_let ((q8.1 * (2 : Int32))) fun v9 =>
  ((Md_isDouble x1 q8.2).bind fun q10 =>
  (if q10.1 = 0 then
    some (v9, q10.2)
  else
    some ((v9 * (3 : Int32)), q10.2))))))
set_option maxRecDepth 100000 in
set_option maxHeartbeats 4000000 in
theorem r_Md_selling_j62 (X : nm_X) (F : nm_F) (hF0 : 2 ≤ nm_d F) (x1 : Int32) (x4 : Int32) (σ : nm_St) : Rn X mi_Md_selling F (nm_Qf X F nm_wI) [(0, .ref 70), (1, .int x1), (4, .int x4)] [] 62 σ (Md_selling_j62 x1 x4 σ) := by
  unfold Md_selling_j62
  refine rn_aload_n (pc := 62) 0 dk_Md_selling_62 rfl rfl rfl ?_
  refine rn_bipush (pc := 63) (11 : Int32) dk_Md_selling_63 cn_b_11 ?_
  refine cl_Md_265 (pc := 65) (As := [.int (11 : Int32)]) (st := []) rfl (ct_Md_body X (11 : Int32) σ) (Nat.le_trans (Nat.le_of_ble_eq_true rfl) hF0) rfl rfl (Nat.le_of_ble_eq_true rfl) dk_Md_selling_65 (fun q7 => ?_)
  refine rn_aload_n (pc := 68) 0 dk_Md_selling_68 rfl rfl rfl ?_
  refine rn_iload_n (pc := 69) 1 dk_Md_selling_69 rfl rfl ?_
  refine rn_iload (pc := 70) dk_Md_selling_70 rfl ?_
  refine cl_Md_268 (pc := 72) (As := [.int x1, .int x4]) (st := []) rfl (ct_Md_blowing X x1 x4 q7.2) (Nat.le_trans (Nat.le_of_ble_eq_true rfl) hF0) rfl rfl (Nat.le_of_ble_eq_true rfl) dk_Md_selling_72 (fun q8 => ?_)
  refine rn_iconst (pc := 75) (2 : Int32) dk_Md_selling_75 cn_i_2 ?_
  refine rn_imul (pc := 76) dk_Md_selling_76 ?_
  refine rn_leti (fun v9 => ?_)
  refine rn_istore (pc := 77) dk_Md_selling_77 rfl rfl ?_
  refine rn_aload_n (pc := 79) 0 dk_Md_selling_79 rfl rfl rfl ?_
  refine rn_iload_n (pc := 80) 1 dk_Md_selling_80 rfl rfl ?_
  refine cl_Md_239 (pc := 81) (As := [.int x1]) (st := []) rfl (ct_Md_isDouble X x1 q8.2) (Nat.le_trans (Nat.le_of_ble_eq_true rfl) hF0) rfl rfl (Nat.le_of_ble_eq_true rfl) dk_Md_selling_81 (fun q10 => ?_)
  refine rn_if_eq (pc := 84) 94 dk_Md_selling_84 (by decide) (fun c11 => ?_) (fun c11 => ?_)
  · refine rn_iload (pc := 94) dk_Md_selling_94 rfl ?_
    exact rn_iret rfl dk_Md_selling_96
  · refine rn_iload (pc := 87) dk_Md_selling_87 rfl ?_
    refine rn_iconst (pc := 89) (3 : Int32) dk_Md_selling_89 cn_i_3 ?_
    refine rn_imul (pc := 90) dk_Md_selling_90 ?_
    refine rn_goto (pc := 91) 96 dk_Md_selling_91 (by decide) ?_
    exact rn_iret rfl dk_Md_selling_96
def Md_selling_j48 (x1 : Int32) (x4 : Int32) (σ : nm_St) : Option (Int32 × nm_St) :=
  ((Md_isDouble x1 σ).bind fun q5 =>
  (if q5.1 = 0 then
    Md_selling_j62 x1 x4 q5.2
  else
    ((Md_body (30 : Int32) q5.2).bind fun q12 =>
    Md_selling_j62 x1 x4 q12.2)))
set_option maxRecDepth 100000 in
set_option maxHeartbeats 4000000 in
theorem r_Md_selling_j48 (X : nm_X) (F : nm_F) (hF0 : 2 ≤ nm_d F) (x1 : Int32) (x4 : Int32) (σ : nm_St) : Rn X mi_Md_selling F (nm_Qf X F nm_wI) [(0, .ref 70), (1, .int x1), (4, .int x4)] [] 48 σ (Md_selling_j48 x1 x4 σ) := by
  unfold Md_selling_j48
  refine rn_aload_n (pc := 48) 0 dk_Md_selling_48 rfl rfl rfl ?_
  refine rn_iload_n (pc := 49) 1 dk_Md_selling_49 rfl rfl ?_
  refine cl_Md_239 (pc := 50) (As := [.int x1]) (st := []) rfl (ct_Md_isDouble X x1 σ) (Nat.le_trans (Nat.le_of_ble_eq_true rfl) hF0) rfl rfl (Nat.le_of_ble_eq_true rfl) dk_Md_selling_50 (fun q5 => ?_)
  refine rn_if_eq (pc := 53) 62 dk_Md_selling_53 (by decide) (fun c6 => ?_) (fun c6 => ?_)
  · exact rn_sub (by rfl) (r_Md_selling_j62 X F hF0 x1 x4 q5.2)
  · refine rn_aload_n (pc := 56) 0 dk_Md_selling_56 rfl rfl rfl ?_
    refine rn_bipush (pc := 57) (30 : Int32) dk_Md_selling_57 cn_b_30 ?_
    refine cl_Md_265 (pc := 59) (As := [.int (30 : Int32)]) (st := []) rfl (ct_Md_body X (30 : Int32) q5.2) (Nat.le_trans (Nat.le_of_ble_eq_true rfl) hF0) rfl rfl (Nat.le_of_ble_eq_true rfl) dk_Md_selling_59 (fun q12 => ?_)
    exact rn_sub (by rfl) (r_Md_selling_j62 X F hF0 x1 x4 q12.2)
def Md_selling_j32 (x1 : Int32) (x2 : Int32) (x3 : Int32) (x4 : Int32) (σ : nm_St) : Option (Int32 × nm_St) :=
  (if x3 = (3 : Int32) then
    ((Md_body (40 : Int32) σ).bind fun q13 =>
    (nm_let ((x2 + (1 : Int32))) fun v14 =>
    Md_selling_j48 x1 v14 q13.2))
  else
    Md_selling_j48 x1 x4 σ)
set_option maxRecDepth 100000 in
set_option maxHeartbeats 4000000 in
theorem r_Md_selling_j32 (X : nm_X) (F : nm_F) (hF0 : 2 ≤ nm_d F) (x1 : Int32) (x2 : Int32) (x3 : Int32) (x4 : Int32) (σ : nm_St) : Rn X mi_Md_selling F (nm_Qf X F nm_wI) [(0, .ref 70), (1, .int x1), (2, .int x2), (3, .int x3), (4, .int x4)] [] 32 σ (Md_selling_j32 x1 x2 x3 x4 σ) := by
  unfold Md_selling_j32
  refine rn_iload_n (pc := 32) 3 dk_Md_selling_32 rfl rfl ?_
  refine rn_iconst (pc := 33) (3 : Int32) dk_Md_selling_33 cn_i_3 ?_
  refine rn_icmp_ne (pc := 34) 48 dk_Md_selling_34 (by decide) (fun c4 => ?_) (fun c4 => ?_)
  · exact rn_sub (by rfl) (r_Md_selling_j48 X F hF0 x1 x4 σ)
  · refine rn_aload_n (pc := 37) 0 dk_Md_selling_37 rfl rfl rfl ?_
    refine rn_bipush (pc := 38) (40 : Int32) dk_Md_selling_38 cn_b_40 ?_
    refine cl_Md_265 (pc := 40) (As := [.int (40 : Int32)]) (st := []) rfl (ct_Md_body X (40 : Int32) σ) (Nat.le_trans (Nat.le_of_ble_eq_true rfl) hF0) rfl rfl (Nat.le_of_ble_eq_true rfl) dk_Md_selling_40 (fun q13 => ?_)
    refine rn_iload_n (pc := 43) 2 dk_Md_selling_43 rfl rfl ?_
    refine rn_iconst (pc := 44) (1 : Int32) dk_Md_selling_44 cn_i_1 ?_
    refine rn_iadd (pc := 45) dk_Md_selling_45 ?_
    refine rn_leti (fun v14 => ?_)
    refine rn_istore (pc := 46) dk_Md_selling_46 rfl rfl ?_
    exact rn_sub (by rfl) (r_Md_selling_j48 X F hF0 x1 v14 q13.2)
def Md_selling (p1 : Int32) (p2 : Int32) (σ : nm_St) : Option (Int32 × nm_St) :=
  (nm_g (nm_in p1 8) (
  (nm_let ((σ.1 72 p1.toNatClampNeg)) fun v2 =>
  (if v2 = (6 : Int32) then
    ((Md_body (71 : Int32) σ).bind fun q15 =>
    (nm_g (nm_in p1 8) (
    (nm_let ((p2 - (q15.2.1 73 p1.toNatClampNeg))) fun v17 =>
    Md_selling_j32 p1 p2 v2 v17 q15.2))))
  else
    Md_selling_j32 p1 p2 v2 p2 σ))))
set_option maxRecDepth 100000 in
set_option maxHeartbeats 4000000 in
theorem ct_Md_selling (X : nm_X) (p1 : Int32) (p2 : Int32) (σ : nm_St) : Ct X mi_Md_selling 2 nm_wI [.ref 70, .int p1, .int p2] σ (Md_selling p1 p2 σ) := by
  refine Ct.of (by decide +kernel) rfl (fun F hF0 => ?_)
  unfold Md_selling
  refine rn_aload_n (pc := 0) 0 dk_Md_selling_0 rfl rfl rfl ?_
  refine gf_Md_26 (pc := 1) rfl dk_Md_selling_1 ?_
  refine rn_iload_n (pc := 4) 1 dk_Md_selling_4 rfl rfl ?_
  refine rn_iaload (pc := 5) rfl dk_Md_selling_5 (fun g1 => ?_)
  refine rn_leti (fun v2 => ?_)
  refine rn_istore_n (pc := 6) 3 dk_Md_selling_6 rfl rfl rfl ?_
  refine rn_iload_n (pc := 7) 2 dk_Md_selling_7 rfl rfl ?_
  refine rn_istore (pc := 8) dk_Md_selling_8 rfl rfl ?_
  refine rn_iload_n (pc := 10) 3 dk_Md_selling_10 rfl rfl ?_
  refine rn_bipush (pc := 11) (6 : Int32) dk_Md_selling_11 cn_b_6 ?_
  refine rn_icmp_ne (pc := 13) 32 dk_Md_selling_13 (by decide) (fun c3 => ?_) (fun c3 => ?_)
  · exact rn_sub (by rfl) (r_Md_selling_j32 X F hF0 p1 p2 v2 p2 σ)
  · refine rn_aload_n (pc := 16) 0 dk_Md_selling_16 rfl rfl rfl ?_
    refine rn_bipush (pc := 17) (71 : Int32) dk_Md_selling_17 cn_b_71 ?_
    refine cl_Md_265 (pc := 19) (As := [.int (71 : Int32)]) (st := []) rfl (ct_Md_body X (71 : Int32) σ) (Nat.le_trans (Nat.le_of_ble_eq_true rfl) hF0) rfl rfl (Nat.le_of_ble_eq_true rfl) dk_Md_selling_19 (fun q15 => ?_)
    refine rn_iload_n (pc := 22) 2 dk_Md_selling_22 rfl rfl ?_
    refine rn_aload_n (pc := 23) 0 dk_Md_selling_23 rfl rfl rfl ?_
    refine gf_Md_29 (pc := 24) rfl dk_Md_selling_24 ?_
    refine rn_iload_n (pc := 27) 1 dk_Md_selling_27 rfl rfl ?_
    refine rn_iaload (pc := 28) rfl dk_Md_selling_28 (fun g16 => ?_)
    refine rn_isub (pc := 29) dk_Md_selling_29 ?_
    refine rn_leti (fun v17 => ?_)
    refine rn_istore (pc := 30) dk_Md_selling_30 rfl rfl ?_
    exact rn_sub (by rfl) (r_Md_selling_j32 X F hF0 p1 p2 v2 v17 q15.2)
theorem dk_Md_hiding_0 : decode mi_Md_hiding.2.1 0 = .ok (.aload_n 0, 1) := by decide +kernel
theorem dk_Md_hiding_1 : decode mi_Md_hiding.2.1 1 = .ok (.getfield 26, 3) := by decide +kernel
theorem dk_Md_hiding_4 : decode mi_Md_hiding.2.1 4 = .ok (.iload_n 1, 1) := by decide +kernel
theorem dk_Md_hiding_5 : decode mi_Md_hiding.2.1 5 = .ok (.iaload, 1) := by decide +kernel
theorem dk_Md_hiding_6 : decode mi_Md_hiding.2.1 6 = .ok (.istore_n 3, 1) := by decide +kernel
theorem dk_Md_hiding_7 : decode mi_Md_hiding.2.1 7 = .ok (.iload_n 3, 1) := by decide +kernel
theorem dk_Md_hiding_8 : decode mi_Md_hiding.2.1 8 = .ok (.iconst 4, 1) := by decide +kernel
theorem dk_Md_hiding_9 : decode mi_Md_hiding.2.1 9 = .ok (.if_icmp .eq 9, 3) := by decide +kernel
theorem dk_Md_hiding_12 : decode mi_Md_hiding.2.1 12 = .ok (.iload_n 3, 1) := by decide +kernel
theorem dk_Md_hiding_13 : decode mi_Md_hiding.2.1 13 = .ok (.bipush 6, 2) := by decide +kernel
theorem dk_Md_hiding_15 : decode mi_Md_hiding.2.1 15 = .ok (.if_icmp .ne 9, 3) := by decide +kernel
theorem dk_Md_hiding_18 : decode mi_Md_hiding.2.1 18 = .ok (.aload_n 0, 1) := by decide +kernel
theorem dk_Md_hiding_19 : decode mi_Md_hiding.2.1 19 = .ok (.bipush 50, 2) := by decide +kernel
theorem dk_Md_hiding_21 : decode mi_Md_hiding.2.1 21 = .ok (.invokevirtual 265, 3) := by decide +kernel
theorem dk_Md_hiding_24 : decode mi_Md_hiding.2.1 24 = .ok (.iload_n 3, 1) := by decide +kernel
theorem dk_Md_hiding_25 : decode mi_Md_hiding.2.1 25 = .ok (.iconst 5, 1) := by decide +kernel
theorem dk_Md_hiding_26 : decode mi_Md_hiding.2.1 26 = .ok (.if_icmp .ne 9, 3) := by decide +kernel
theorem dk_Md_hiding_29 : decode mi_Md_hiding.2.1 29 = .ok (.aload_n 0, 1) := by decide +kernel
theorem dk_Md_hiding_30 : decode mi_Md_hiding.2.1 30 = .ok (.bipush 60, 2) := by decide +kernel
theorem dk_Md_hiding_32 : decode mi_Md_hiding.2.1 32 = .ok (.invokevirtual 265, 3) := by decide +kernel
theorem dk_Md_hiding_35 : decode mi_Md_hiding.2.1 35 = .ok (.aload_n 0, 1) := by decide +kernel
theorem dk_Md_hiding_36 : decode mi_Md_hiding.2.1 36 = .ok (.bipush 12, 2) := by decide +kernel
theorem dk_Md_hiding_38 : decode mi_Md_hiding.2.1 38 = .ok (.invokevirtual 265, 3) := by decide +kernel
theorem dk_Md_hiding_41 : decode mi_Md_hiding.2.1 41 = .ok (.aload_n 0, 1) := by decide +kernel
theorem dk_Md_hiding_42 : decode mi_Md_hiding.2.1 42 = .ok (.iload_n 1, 1) := by decide +kernel
theorem dk_Md_hiding_43 : decode mi_Md_hiding.2.1 43 = .ok (.iload_n 2, 1) := by decide +kernel
theorem dk_Md_hiding_44 : decode mi_Md_hiding.2.1 44 = .ok (.invokevirtual 271, 3) := by decide +kernel
theorem dk_Md_hiding_47 : decode mi_Md_hiding.2.1 47 = .ok (.istore 4, 2) := by decide +kernel
theorem dk_Md_hiding_49 : decode mi_Md_hiding.2.1 49 = .ok (.iload 4, 2) := by decide +kernel
theorem dk_Md_hiding_51 : decode mi_Md_hiding.2.1 51 = .ok (.aload_n 0, 1) := by decide +kernel
theorem dk_Md_hiding_52 : decode mi_Md_hiding.2.1 52 = .ok (.iload_n 1, 1) := by decide +kernel
theorem dk_Md_hiding_53 : decode mi_Md_hiding.2.1 53 = .ok (.iload_n 2, 1) := by decide +kernel
theorem dk_Md_hiding_54 : decode mi_Md_hiding.2.1 54 = .ok (.aload_n 0, 1) := by decide +kernel
theorem dk_Md_hiding_55 : decode mi_Md_hiding.2.1 55 = .ok (.getfield 29, 3) := by decide +kernel
theorem dk_Md_hiding_58 : decode mi_Md_hiding.2.1 58 = .ok (.iload_n 1, 1) := by decide +kernel
theorem dk_Md_hiding_59 : decode mi_Md_hiding.2.1 59 = .ok (.iaload, 1) := by decide +kernel
theorem dk_Md_hiding_60 : decode mi_Md_hiding.2.1 60 = .ok (.isub, 1) := by decide +kernel
theorem dk_Md_hiding_61 : decode mi_Md_hiding.2.1 61 = .ok (.invokevirtual 268, 3) := by decide +kernel
theorem dk_Md_hiding_64 : decode mi_Md_hiding.2.1 64 = .ok (.ixor, 1) := by decide +kernel
theorem dk_Md_hiding_65 : decode mi_Md_hiding.2.1 65 = .ok (.istore 4, 2) := by decide +kernel
theorem dk_Md_hiding_67 : decode mi_Md_hiding.2.1 67 = .ok (.iload_n 3, 1) := by decide +kernel
theorem dk_Md_hiding_68 : decode mi_Md_hiding.2.1 68 = .ok (.iconst 4, 1) := by decide +kernel
theorem dk_Md_hiding_69 : decode mi_Md_hiding.2.1 69 = .ok (.if_icmp .eq 9, 3) := by decide +kernel
theorem dk_Md_hiding_72 : decode mi_Md_hiding.2.1 72 = .ok (.iload_n 3, 1) := by decide +kernel
theorem dk_Md_hiding_73 : decode mi_Md_hiding.2.1 73 = .ok (.bipush 6, 2) := by decide +kernel
theorem dk_Md_hiding_75 : decode mi_Md_hiding.2.1 75 = .ok (.if_icmp .ne 9, 3) := by decide +kernel
theorem dk_Md_hiding_78 : decode mi_Md_hiding.2.1 78 = .ok (.iload 4, 2) := by decide +kernel
theorem dk_Md_hiding_80 : decode mi_Md_hiding.2.1 80 = .ok (.ineg, 1) := by decide +kernel
theorem dk_Md_hiding_81 : decode mi_Md_hiding.2.1 81 = .ok (.goto 17, 3) := by decide +kernel
theorem dk_Md_hiding_84 : decode mi_Md_hiding.2.1 84 = .ok (.iload_n 3, 1) := by decide +kernel
theorem dk_Md_hiding_85 : decode mi_Md_hiding.2.1 85 = .ok (.iconst 5, 1) := by decide +kernel
theorem dk_Md_hiding_86 : decode mi_Md_hiding.2.1 86 = .ok (.if_icmp .ne 10, 3) := by decide +kernel
theorem dk_Md_hiding_89 : decode mi_Md_hiding.2.1 89 = .ok (.iload 4, 2) := by decide +kernel
theorem dk_Md_hiding_91 : decode mi_Md_hiding.2.1 91 = .ok (.iconst 5, 1) := by decide +kernel
theorem dk_Md_hiding_92 : decode mi_Md_hiding.2.1 92 = .ok (.ixor, 1) := by decide +kernel
theorem dk_Md_hiding_93 : decode mi_Md_hiding.2.1 93 = .ok (.goto 5, 3) := by decide +kernel
theorem dk_Md_hiding_96 : decode mi_Md_hiding.2.1 96 = .ok (.iload 4, 2) := by decide +kernel
theorem dk_Md_hiding_98 : decode mi_Md_hiding.2.1 98 = .ok (.ireturn, 1) := by decide +kernel
def Md_hiding_j35 (x1 : Int32) (x2 : Int32) (x3 : Int32) (σ : nm_St) : Option (Int32 × nm_St) :=
  ((Md_body (12 : Int32) σ).bind fun q6 =>
  ((Md_selling x1 x2 q6.2).bind fun q7 =>
  (nm_g (nm_in x1 8) (
  ((Md_blowing x1 (x2 - (q7.2.1 73 x1.toNatClampNeg)) q7.2).bind fun q9 =>
  (if x3 = (4 : Int32) then
    some ((-(q7.1 ^^^ q9.1)), q9.2)
  else
    (if x3 = (6 : Int32) then
      some ((-(q7.1 ^^^ q9.1)), q9.2)
    else
      (if x3 = (5 : Int32) then
        some (((q7.1 ^^^ q9.1) ^^^ (5 : Int32)), q9.2)
      else
        some ((q7.1 ^^^ q9.1), q9.2)))))))))
set_option maxRecDepth 100000 in
set_option maxHeartbeats 4000000 in
theorem r_Md_hiding_j35 (X : nm_X) (F : nm_F) (hF0 : 3 ≤ nm_d F) (x1 : Int32) (x2 : Int32) (x3 : Int32) (σ : nm_St) : Rn X mi_Md_hiding F (nm_Qf X F nm_wI) [(0, .ref 70), (1, .int x1), (2, .int x2), (3, .int x3)] [] 35 σ (Md_hiding_j35 x1 x2 x3 σ) := by
  unfold Md_hiding_j35
  refine rn_aload_n (pc := 35) 0 dk_Md_hiding_35 rfl rfl rfl ?_
  refine rn_bipush (pc := 36) (12 : Int32) dk_Md_hiding_36 cn_b_12 ?_
  refine cl_Md_265 (pc := 38) (As := [.int (12 : Int32)]) (st := []) rfl (ct_Md_body X (12 : Int32) σ) (Nat.le_trans (Nat.le_of_ble_eq_true rfl) hF0) rfl rfl (Nat.le_of_ble_eq_true rfl) dk_Md_hiding_38 (fun q6 => ?_)
  refine rn_aload_n (pc := 41) 0 dk_Md_hiding_41 rfl rfl rfl ?_
  refine rn_iload_n (pc := 42) 1 dk_Md_hiding_42 rfl rfl ?_
  refine rn_iload_n (pc := 43) 2 dk_Md_hiding_43 rfl rfl ?_
  refine cl_Md_271 (pc := 44) (As := [.int x1, .int x2]) (st := []) rfl (ct_Md_selling X x1 x2 q6.2) (Nat.le_trans (Nat.le_of_ble_eq_true rfl) hF0) rfl rfl (Nat.le_of_ble_eq_true rfl) dk_Md_hiding_44 (fun q7 => ?_)
  refine rn_istore (pc := 47) dk_Md_hiding_47 rfl rfl ?_
  refine rn_iload (pc := 49) dk_Md_hiding_49 rfl ?_
  refine rn_aload_n (pc := 51) 0 dk_Md_hiding_51 rfl rfl rfl ?_
  refine rn_iload_n (pc := 52) 1 dk_Md_hiding_52 rfl rfl ?_
  refine rn_iload_n (pc := 53) 2 dk_Md_hiding_53 rfl rfl ?_
  refine rn_aload_n (pc := 54) 0 dk_Md_hiding_54 rfl rfl rfl ?_
  refine gf_Md_29 (pc := 55) rfl dk_Md_hiding_55 ?_
  refine rn_iload_n (pc := 58) 1 dk_Md_hiding_58 rfl rfl ?_
  refine rn_iaload (pc := 59) rfl dk_Md_hiding_59 (fun g8 => ?_)
  refine rn_isub (pc := 60) dk_Md_hiding_60 ?_
  refine cl_Md_268 (pc := 61) (As := [.int x1, .int (x2 - (q7.2.1 73 x1.toNatClampNeg))]) (st := [.int q7.1]) rfl (ct_Md_blowing X x1 (x2 - (q7.2.1 73 x1.toNatClampNeg)) q7.2) (Nat.le_trans (Nat.le_of_ble_eq_true rfl) hF0) rfl rfl (Nat.le_of_ble_eq_true rfl) dk_Md_hiding_61 (fun q9 => ?_)
  refine rn_ixor (pc := 64) dk_Md_hiding_64 ?_
  refine rn_istore (pc := 65) dk_Md_hiding_65 rfl rfl ?_
  refine rn_iload_n (pc := 67) 3 dk_Md_hiding_67 rfl rfl ?_
  refine rn_iconst (pc := 68) (4 : Int32) dk_Md_hiding_68 cn_i_4 ?_
  refine rn_icmp_eq (pc := 69) 78 dk_Md_hiding_69 (by decide) (fun c10 => ?_) (fun c10 => ?_)
  · refine rn_iload (pc := 78) dk_Md_hiding_78 rfl ?_
    refine rn_ineg (pc := 80) dk_Md_hiding_80 ?_
    refine rn_goto (pc := 81) 98 dk_Md_hiding_81 (by decide) ?_
    exact rn_iret rfl dk_Md_hiding_98
  · refine rn_iload_n (pc := 72) 3 dk_Md_hiding_72 rfl rfl ?_
    refine rn_bipush (pc := 73) (6 : Int32) dk_Md_hiding_73 cn_b_6 ?_
    refine rn_icmp_ne (pc := 75) 84 dk_Md_hiding_75 (by decide) (fun c11 => ?_) (fun c11 => ?_)
    · refine rn_iload_n (pc := 84) 3 dk_Md_hiding_84 rfl rfl ?_
      refine rn_iconst (pc := 85) (5 : Int32) dk_Md_hiding_85 cn_i_5 ?_
      refine rn_icmp_ne (pc := 86) 96 dk_Md_hiding_86 (by decide) (fun c12 => ?_) (fun c12 => ?_)
      · refine rn_iload (pc := 96) dk_Md_hiding_96 rfl ?_
        exact rn_iret rfl dk_Md_hiding_98
      · refine rn_iload (pc := 89) dk_Md_hiding_89 rfl ?_
        refine rn_iconst (pc := 91) (5 : Int32) dk_Md_hiding_91 cn_i_5 ?_
        refine rn_ixor (pc := 92) dk_Md_hiding_92 ?_
        refine rn_goto (pc := 93) 98 dk_Md_hiding_93 (by decide) ?_
        exact rn_iret rfl dk_Md_hiding_98
    · refine rn_iload (pc := 78) dk_Md_hiding_78 rfl ?_
      refine rn_ineg (pc := 80) dk_Md_hiding_80 ?_
      refine rn_goto (pc := 81) 98 dk_Md_hiding_81 (by decide) ?_
      exact rn_iret rfl dk_Md_hiding_98
def Md_hiding_j24 (x1 : Int32) (x2 : Int32) (x3 : Int32) (σ : nm_St) : Option (Int32 × nm_St) :=
  (if x3 = (5 : Int32) then
    ((Md_body (60 : Int32) σ).bind fun q13 =>
    Md_hiding_j35 x1 x2 x3 q13.2)
  else
    Md_hiding_j35 x1 x2 x3 σ)
set_option maxRecDepth 100000 in
set_option maxHeartbeats 4000000 in
theorem r_Md_hiding_j24 (X : nm_X) (F : nm_F) (hF0 : 3 ≤ nm_d F) (x1 : Int32) (x2 : Int32) (x3 : Int32) (σ : nm_St) : Rn X mi_Md_hiding F (nm_Qf X F nm_wI) [(0, .ref 70), (1, .int x1), (2, .int x2), (3, .int x3)] [] 24 σ (Md_hiding_j24 x1 x2 x3 σ) := by
  unfold Md_hiding_j24
  refine rn_iload_n (pc := 24) 3 dk_Md_hiding_24 rfl rfl ?_
  refine rn_iconst (pc := 25) (5 : Int32) dk_Md_hiding_25 cn_i_5 ?_
  refine rn_icmp_ne (pc := 26) 35 dk_Md_hiding_26 (by decide) (fun c5 => ?_) (fun c5 => ?_)
  · exact rn_sub (by rfl) (r_Md_hiding_j35 X F hF0 x1 x2 x3 σ)
  · refine rn_aload_n (pc := 29) 0 dk_Md_hiding_29 rfl rfl rfl ?_
    refine rn_bipush (pc := 30) (60 : Int32) dk_Md_hiding_30 cn_b_60 ?_
    refine cl_Md_265 (pc := 32) (As := [.int (60 : Int32)]) (st := []) rfl (ct_Md_body X (60 : Int32) σ) (Nat.le_trans (Nat.le_of_ble_eq_true rfl) hF0) rfl rfl (Nat.le_of_ble_eq_true rfl) dk_Md_hiding_32 (fun q13 => ?_)
    exact rn_sub (by rfl) (r_Md_hiding_j35 X F hF0 x1 x2 x3 q13.2)
def Md_hiding_j18 (x1 : Int32) (x2 : Int32) (x3 : Int32) (σ : nm_St) : Option (Int32 × nm_St) :=
  ((Md_body (50 : Int32) σ).bind fun q4 =>
  Md_hiding_j24 x1 x2 x3 q4.2)
set_option maxRecDepth 100000 in
set_option maxHeartbeats 4000000 in
theorem r_Md_hiding_j18 (X : nm_X) (F : nm_F) (hF0 : 3 ≤ nm_d F) (x1 : Int32) (x2 : Int32) (x3 : Int32) (σ : nm_St) : Rn X mi_Md_hiding F (nm_Qf X F nm_wI) [(0, .ref 70), (1, .int x1), (2, .int x2), (3, .int x3)] [] 18 σ (Md_hiding_j18 x1 x2 x3 σ) := by
  unfold Md_hiding_j18
  refine rn_aload_n (pc := 18) 0 dk_Md_hiding_18 rfl rfl rfl ?_
  refine rn_bipush (pc := 19) (50 : Int32) dk_Md_hiding_19 cn_b_50 ?_
  refine cl_Md_265 (pc := 21) (As := [.int (50 : Int32)]) (st := []) rfl (ct_Md_body X (50 : Int32) σ) (Nat.le_trans (Nat.le_of_ble_eq_true rfl) hF0) rfl rfl (Nat.le_of_ble_eq_true rfl) dk_Md_hiding_21 (fun q4 => ?_)
  exact rn_sub (by rfl) (r_Md_hiding_j24 X F hF0 x1 x2 x3 q4.2)
def Md_hiding (p1 : Int32) (p2 : Int32) (σ : nm_St) : Option (Int32 × nm_St) :=
  (nm_g (nm_in p1 8) (
  (nm_let ((σ.1 72 p1.toNatClampNeg)) fun v2 =>
  (if v2 = (4 : Int32) then
    Md_hiding_j18 p1 p2 v2 σ
  else
    (if v2 = (6 : Int32) then
      Md_hiding_j18 p1 p2 v2 σ
    else
      Md_hiding_j24 p1 p2 v2 σ)))))
set_option maxRecDepth 100000 in
set_option maxHeartbeats 4000000 in
theorem ct_Md_hiding (X : nm_X) (p1 : Int32) (p2 : Int32) (σ : nm_St) : Ct X mi_Md_hiding 3 nm_wI [.ref 70, .int p1, .int p2] σ (Md_hiding p1 p2 σ) := by
  refine Ct.of (by decide +kernel) rfl (fun F hF0 => ?_)
  unfold Md_hiding
  refine rn_aload_n (pc := 0) 0 dk_Md_hiding_0 rfl rfl rfl ?_
  refine gf_Md_26 (pc := 1) rfl dk_Md_hiding_1 ?_
  refine rn_iload_n (pc := 4) 1 dk_Md_hiding_4 rfl rfl ?_
  refine rn_iaload (pc := 5) rfl dk_Md_hiding_5 (fun g1 => ?_)
  refine rn_leti (fun v2 => ?_)
  refine rn_istore_n (pc := 6) 3 dk_Md_hiding_6 rfl rfl rfl ?_
  refine rn_iload_n (pc := 7) 3 dk_Md_hiding_7 rfl rfl ?_
  refine rn_iconst (pc := 8) (4 : Int32) dk_Md_hiding_8 cn_i_4 ?_
  refine rn_icmp_eq (pc := 9) 18 dk_Md_hiding_9 (by decide) (fun c3 => ?_) (fun c3 => ?_)
  · exact rn_sub (by rfl) (r_Md_hiding_j18 X F hF0 p1 p2 v2 σ)
  · refine rn_iload_n (pc := 12) 3 dk_Md_hiding_12 rfl rfl ?_
    refine rn_bipush (pc := 13) (6 : Int32) dk_Md_hiding_13 cn_b_6 ?_
    refine rn_icmp_ne (pc := 15) 24 dk_Md_hiding_15 (by decide) (fun c14 => ?_) (fun c14 => ?_)
    · exact rn_sub (by rfl) (r_Md_hiding_j24 X F hF0 p1 p2 v2 σ)
    · exact rn_sub (by rfl) (r_Md_hiding_j18 X F hF0 p1 p2 v2 σ)
theorem dk_Md_act_0 : decode mi_Md_act.2.1 0 = .ok (.aload_n 0, 1) := by decide +kernel
theorem dk_Md_act_1 : decode mi_Md_act.2.1 1 = .ok (.iconst 0, 1) := by decide +kernel
theorem dk_Md_act_2 : decode mi_Md_act.2.1 2 = .ok (.putfield 262, 3) := by decide +kernel
theorem dk_Md_act_5 : decode mi_Md_act.2.1 5 = .ok (.aload_n 0, 1) := by decide +kernel
theorem dk_Md_act_6 : decode mi_Md_act.2.1 6 = .ok (.iload_n 1, 1) := by decide +kernel
theorem dk_Md_act_7 : decode mi_Md_act.2.1 7 = .ok (.invokevirtual 101, 3) := by decide +kernel
theorem dk_Md_act_10 : decode mi_Md_act.2.1 10 = .ok (.ifCond .eq 12, 3) := by decide +kernel
theorem dk_Md_act_13 : decode mi_Md_act.2.1 13 = .ok (.iload_n 2, 1) := by decide +kernel
theorem dk_Md_act_14 : decode mi_Md_act.2.1 14 = .ok (.ifCond .lt 8, 3) := by decide +kernel
theorem dk_Md_act_17 : decode mi_Md_act.2.1 17 = .ok (.iload_n 2, 1) := by decide +kernel
theorem dk_Md_act_18 : decode mi_Md_act.2.1 18 = .ok (.iconst 2, 1) := by decide +kernel
theorem dk_Md_act_19 : decode mi_Md_act.2.1 19 = .ok (.if_icmp .le 5, 3) := by decide +kernel
theorem dk_Md_act_22 : decode mi_Md_act.2.1 22 = .ok (.iconst 0, 1) := by decide +kernel
theorem dk_Md_act_23 : decode mi_Md_act.2.1 23 = .ok (.ireturn, 1) := by decide +kernel
theorem dk_Md_act_24 : decode mi_Md_act.2.1 24 = .ok (.iload_n 2, 1) := by decide +kernel
theorem dk_Md_act_25 : decode mi_Md_act.2.1 25 = .ok (.ifCond .ne 12, 3) := by decide +kernel
theorem dk_Md_act_28 : decode mi_Md_act.2.1 28 = .ok (.aload_n 0, 1) := by decide +kernel
theorem dk_Md_act_29 : decode mi_Md_act.2.1 29 = .ok (.iload_n 1, 1) := by decide +kernel
theorem dk_Md_act_30 : decode mi_Md_act.2.1 30 = .ok (.iload_n 3, 1) := by decide +kernel
theorem dk_Md_act_31 : decode mi_Md_act.2.1 31 = .ok (.invokevirtual 268, 3) := by decide +kernel
theorem dk_Md_act_34 : decode mi_Md_act.2.1 34 = .ok (.goto 23, 3) := by decide +kernel
theorem dk_Md_act_37 : decode mi_Md_act.2.1 37 = .ok (.iload_n 2, 1) := by decide +kernel
theorem dk_Md_act_38 : decode mi_Md_act.2.1 38 = .ok (.iconst 1, 1) := by decide +kernel
theorem dk_Md_act_39 : decode mi_Md_act.2.1 39 = .ok (.if_icmp .ne 12, 3) := by decide +kernel
theorem dk_Md_act_42 : decode mi_Md_act.2.1 42 = .ok (.aload_n 0, 1) := by decide +kernel
theorem dk_Md_act_43 : decode mi_Md_act.2.1 43 = .ok (.iload_n 1, 1) := by decide +kernel
theorem dk_Md_act_44 : decode mi_Md_act.2.1 44 = .ok (.iload_n 3, 1) := by decide +kernel
theorem dk_Md_act_45 : decode mi_Md_act.2.1 45 = .ok (.invokevirtual 271, 3) := by decide +kernel
theorem dk_Md_act_48 : decode mi_Md_act.2.1 48 = .ok (.goto 9, 3) := by decide +kernel
theorem dk_Md_act_51 : decode mi_Md_act.2.1 51 = .ok (.aload_n 0, 1) := by decide +kernel
theorem dk_Md_act_52 : decode mi_Md_act.2.1 52 = .ok (.iload_n 1, 1) := by decide +kernel
theorem dk_Md_act_53 : decode mi_Md_act.2.1 53 = .ok (.iload_n 3, 1) := by decide +kernel
theorem dk_Md_act_54 : decode mi_Md_act.2.1 54 = .ok (.invokevirtual 274, 3) := by decide +kernel
theorem dk_Md_act_57 : decode mi_Md_act.2.1 57 = .ok (.ireturn, 1) := by decide +kernel
def Md_act (p1 : Int32) (p2 : Int32) (p3 : Int32) (σ : nm_St) : Option (Int32 × nm_St) :=
  (nm_let (nm_pI σ 70 35 (0 : Int32)) fun s1 =>
  ((Md_isMaker p1 s1).bind fun q2 =>
  (if q2.1 = 0 then
    some ((0 : Int32), q2.2)
  else
    (if p2 < 0 then
      some ((0 : Int32), q2.2)
    else
      (if p2 ≤ (2 : Int32) then
        (if p2 = 0 then
          ((Md_blowing p1 p3 q2.2).bind fun q10 =>
          some (q10.1, q10.2))
        else
          (if p2 = (1 : Int32) then
            ((Md_selling p1 p3 q2.2).bind fun q9 =>
            some (q9.1, q9.2))
          else
            ((Md_hiding p1 p3 q2.2).bind fun q8 =>
            some (q8.1, q8.2))))
      else
        some ((0 : Int32), q2.2))))))
set_option maxRecDepth 100000 in
set_option maxHeartbeats 4000000 in
theorem ct_Md_act (X : nm_X) (p1 : Int32) (p2 : Int32) (p3 : Int32) (σ : nm_St) : Ct X mi_Md_act 4 nm_wI [.ref 70, .int p1, .int p2, .int p3] σ (Md_act p1 p2 p3 σ) := by
  refine Ct.of (by decide +kernel) rfl (fun F hF0 => ?_)
  unfold Md_act
  refine rn_aload_n (pc := 0) 0 dk_Md_act_0 rfl rfl rfl ?_
  refine rn_iconst (pc := 1) (0 : Int32) dk_Md_act_1 cn_i_0 ?_
  refine pf_Md_262 (pc := 2) rfl dk_Md_act_2 ?_
  refine rn_lets (fun s1 => ?_)
  refine rn_aload_n (pc := 5) 0 dk_Md_act_5 rfl rfl rfl ?_
  refine rn_iload_n (pc := 6) 1 dk_Md_act_6 rfl rfl ?_
  refine cl_Md_101 (pc := 7) (As := [.int p1]) (st := []) rfl (ct_Md_isMaker X p1 s1) (Nat.le_trans (Nat.le_of_ble_eq_true rfl) hF0) rfl rfl (Nat.le_of_ble_eq_true rfl) dk_Md_act_7 (fun q2 => ?_)
  refine rn_if_eq (pc := 10) 22 dk_Md_act_10 (by decide) (fun c3 => ?_) (fun c3 => ?_)
  · refine rn_iconst (pc := 22) (0 : Int32) dk_Md_act_22 cn_i_0 ?_
    exact rn_iret rfl dk_Md_act_23
  · refine rn_iload_n (pc := 13) 2 dk_Md_act_13 rfl rfl ?_
    refine rn_if_lt (pc := 14) 22 dk_Md_act_14 (by decide) (fun c4 => ?_) (fun c4 => ?_)
    · refine rn_iconst (pc := 22) (0 : Int32) dk_Md_act_22 cn_i_0 ?_
      exact rn_iret rfl dk_Md_act_23
    · refine rn_iload_n (pc := 17) 2 dk_Md_act_17 rfl rfl ?_
      refine rn_iconst (pc := 18) (2 : Int32) dk_Md_act_18 cn_i_2 ?_
      refine rn_icmp_le (pc := 19) 24 dk_Md_act_19 (by decide) (fun c5 => ?_) (fun c5 => ?_)
      · refine rn_iload_n (pc := 24) 2 dk_Md_act_24 rfl rfl ?_
        refine rn_if_ne (pc := 25) 37 dk_Md_act_25 (by decide) (fun c6 => ?_) (fun c6 => ?_)
        · refine rn_iload_n (pc := 37) 2 dk_Md_act_37 rfl rfl ?_
          refine rn_iconst (pc := 38) (1 : Int32) dk_Md_act_38 cn_i_1 ?_
          refine rn_icmp_ne (pc := 39) 51 dk_Md_act_39 (by decide) (fun c7 => ?_) (fun c7 => ?_)
          · refine rn_aload_n (pc := 51) 0 dk_Md_act_51 rfl rfl rfl ?_
            refine rn_iload_n (pc := 52) 1 dk_Md_act_52 rfl rfl ?_
            refine rn_iload_n (pc := 53) 3 dk_Md_act_53 rfl rfl ?_
            refine cl_Md_274 (pc := 54) (As := [.int p1, .int p3]) (st := []) rfl (ct_Md_hiding X p1 p3 q2.2) (Nat.le_trans (Nat.le_of_ble_eq_true rfl) hF0) rfl rfl (Nat.le_of_ble_eq_true rfl) dk_Md_act_54 (fun q8 => ?_)
            exact rn_iret rfl dk_Md_act_57
          · refine rn_aload_n (pc := 42) 0 dk_Md_act_42 rfl rfl rfl ?_
            refine rn_iload_n (pc := 43) 1 dk_Md_act_43 rfl rfl ?_
            refine rn_iload_n (pc := 44) 3 dk_Md_act_44 rfl rfl ?_
            refine cl_Md_271 (pc := 45) (As := [.int p1, .int p3]) (st := []) rfl (ct_Md_selling X p1 p3 q2.2) (Nat.le_trans (Nat.le_of_ble_eq_true rfl) hF0) rfl rfl (Nat.le_of_ble_eq_true rfl) dk_Md_act_45 (fun q9 => ?_)
            refine rn_goto (pc := 48) 57 dk_Md_act_48 (by decide) ?_
            exact rn_iret rfl dk_Md_act_57
        · refine rn_aload_n (pc := 28) 0 dk_Md_act_28 rfl rfl rfl ?_
          refine rn_iload_n (pc := 29) 1 dk_Md_act_29 rfl rfl ?_
          refine rn_iload_n (pc := 30) 3 dk_Md_act_30 rfl rfl ?_
          refine cl_Md_268 (pc := 31) (As := [.int p1, .int p3]) (st := []) rfl (ct_Md_blowing X p1 p3 q2.2) (Nat.le_trans (Nat.le_of_ble_eq_true rfl) hF0) rfl rfl (Nat.le_of_ble_eq_true rfl) dk_Md_act_31 (fun q10 => ?_)
          refine rn_goto (pc := 34) 57 dk_Md_act_34 (by decide) ?_
          exact rn_iret rfl dk_Md_act_57
      · refine rn_iconst (pc := 22) (0 : Int32) dk_Md_act_22 cn_i_0 ?_
        exact rn_iret rfl dk_Md_act_23
theorem dk_Md_trace_0 : decode mi_Md_trace.2.1 0 = .ok (.iload_n 1, 1) := by decide +kernel
theorem dk_Md_trace_1 : decode mi_Md_trace.2.1 1 = .ok (.ifCond .lt 26, 3) := by decide +kernel
theorem dk_Md_trace_4 : decode mi_Md_trace.2.1 4 = .ok (.iload_n 1, 1) := by decide +kernel
theorem dk_Md_trace_5 : decode mi_Md_trace.2.1 5 = .ok (.bipush 20, 2) := by decide +kernel
theorem dk_Md_trace_7 : decode mi_Md_trace.2.1 7 = .ok (.if_icmp .ge 20, 3) := by decide +kernel
theorem dk_Md_trace_10 : decode mi_Md_trace.2.1 10 = .ok (.iload_n 1, 1) := by decide +kernel
theorem dk_Md_trace_11 : decode mi_Md_trace.2.1 11 = .ok (.aload_n 0, 1) := by decide +kernel
theorem dk_Md_trace_12 : decode mi_Md_trace.2.1 12 = .ok (.getfield 262, 3) := by decide +kernel
theorem dk_Md_trace_15 : decode mi_Md_trace.2.1 15 = .ok (.if_icmp .ge 12, 3) := by decide +kernel
theorem dk_Md_trace_18 : decode mi_Md_trace.2.1 18 = .ok (.aload_n 0, 1) := by decide +kernel
theorem dk_Md_trace_19 : decode mi_Md_trace.2.1 19 = .ok (.getfield 87, 3) := by decide +kernel
theorem dk_Md_trace_22 : decode mi_Md_trace.2.1 22 = .ok (.iload_n 1, 1) := by decide +kernel
theorem dk_Md_trace_23 : decode mi_Md_trace.2.1 23 = .ok (.iaload, 1) := by decide +kernel
theorem dk_Md_trace_24 : decode mi_Md_trace.2.1 24 = .ok (.goto 4, 3) := by decide +kernel
theorem dk_Md_trace_27 : decode mi_Md_trace.2.1 27 = .ok (.iconst (-1), 1) := by decide +kernel
theorem dk_Md_trace_28 : decode mi_Md_trace.2.1 28 = .ok (.ireturn, 1) := by decide +kernel
def Md_trace (p1 : Int32) (σ : nm_St) : Option (Int32 × nm_St) :=
  (if p1 < 0 then
    some ((-1 : Int32), σ)
  else
    (if (20 : Int32) ≤ p1 then
      some ((-1 : Int32), σ)
    else
      (if (σ.1 70 35) ≤ p1 then
        some ((-1 : Int32), σ)
      else
        (nm_g (nm_in p1 20) (
        some ((σ.1 92 p1.toNatClampNeg), σ))))))
set_option maxRecDepth 100000 in
set_option maxHeartbeats 4000000 in
theorem ct_Md_trace (X : nm_X) (p1 : Int32) (σ : nm_St) : Ct X mi_Md_trace 0 nm_wI [.ref 70, .int p1] σ (Md_trace p1 σ) := by
  refine Ct.of (by decide +kernel) rfl (fun F hF0 => ?_)
  unfold Md_trace
  refine rn_iload_n (pc := 0) 1 dk_Md_trace_0 rfl rfl ?_
  refine rn_if_lt (pc := 1) 27 dk_Md_trace_1 (by decide) (fun c1 => ?_) (fun c1 => ?_)
  · refine rn_iconst (pc := 27) (-1 : Int32) dk_Md_trace_27 cn_i_m1 ?_
    exact rn_iret rfl dk_Md_trace_28
  · refine rn_iload_n (pc := 4) 1 dk_Md_trace_4 rfl rfl ?_
    refine rn_bipush (pc := 5) (20 : Int32) dk_Md_trace_5 cn_b_20 ?_
    refine rn_icmp_ge (pc := 7) 27 dk_Md_trace_7 (by decide) (fun c2 => ?_) (fun c2 => ?_)
    · refine rn_iconst (pc := 27) (-1 : Int32) dk_Md_trace_27 cn_i_m1 ?_
      exact rn_iret rfl dk_Md_trace_28
    · refine rn_iload_n (pc := 10) 1 dk_Md_trace_10 rfl rfl ?_
      refine rn_aload_n (pc := 11) 0 dk_Md_trace_11 rfl rfl rfl ?_
      refine gf_Md_262 (pc := 12) rfl dk_Md_trace_12 ?_
      refine rn_icmp_ge (pc := 15) 27 dk_Md_trace_15 (by decide) (fun c3 => ?_) (fun c3 => ?_)
      · refine rn_iconst (pc := 27) (-1 : Int32) dk_Md_trace_27 cn_i_m1 ?_
        exact rn_iret rfl dk_Md_trace_28
      · refine rn_aload_n (pc := 18) 0 dk_Md_trace_18 rfl rfl rfl ?_
        refine gf_Md_87 (pc := 19) rfl dk_Md_trace_19 ?_
        refine rn_iload_n (pc := 22) 1 dk_Md_trace_22 rfl rfl ?_
        refine rn_iaload (pc := 23) rfl dk_Md_trace_23 (fun g4 => ?_)
        refine rn_goto (pc := 24) 28 dk_Md_trace_24 (by decide) ?_
        exact rn_iret rfl dk_Md_trace_28
theorem dk_Md_image_0 : decode mi_Md_image.2.1 0 = .ok (.aload_n 0, 1) := by decide +kernel
theorem dk_Md_image_1 : decode mi_Md_image.2.1 1 = .ok (.iconst 1, 1) := by decide +kernel
theorem dk_Md_image_2 : decode mi_Md_image.2.1 2 = .ok (.putfield 277, 3) := by decide +kernel
theorem dk_Md_image_5 : decode mi_Md_image.2.1 5 = .ok (.aload_n 0, 1) := by decide +kernel
theorem dk_Md_image_6 : decode mi_Md_image.2.1 6 = .ok (.aload_n 0, 1) := by decide +kernel
theorem dk_Md_image_7 : decode mi_Md_image.2.1 7 = .ok (.getfield 75, 3) := by decide +kernel
theorem dk_Md_image_10 : decode mi_Md_image.2.1 10 = .ok (.iconst 0, 1) := by decide +kernel
theorem dk_Md_image_11 : decode mi_Md_image.2.1 11 = .ok (.invokevirtual 167, 3) := by decide +kernel
theorem dk_Md_image_14 : decode mi_Md_image.2.1 14 = .ok (.aload_n 0, 1) := by decide +kernel
theorem dk_Md_image_15 : decode mi_Md_image.2.1 15 = .ok (.getfield 90, 3) := by decide +kernel
theorem dk_Md_image_18 : decode mi_Md_image.2.1 18 = .ok (.ireturn, 1) := by decide +kernel
def Md_image (σ : nm_St) : Option (Int32 × nm_St) :=
  (nm_let (nm_pI σ 70 36 (1 : Int32)) fun s1 =>
  ((Md_all 88 (0 : Int32) s1).bind fun q2 =>
  some ((q2.2.1 70 0), q2.2)))
set_option maxRecDepth 100000 in
set_option maxHeartbeats 4000000 in
theorem ct_Md_image (X : nm_X) (σ : nm_St) : Ct X mi_Md_image 2 nm_wI [.ref 70] σ (Md_image σ) := by
  refine Ct.of (by decide +kernel) rfl (fun F hF0 => ?_)
  unfold Md_image
  refine rn_aload_n (pc := 0) 0 dk_Md_image_0 rfl rfl rfl ?_
  refine rn_iconst (pc := 1) (1 : Int32) dk_Md_image_1 cn_i_1 ?_
  refine pf_Md_277 (pc := 2) rfl rfl rfl dk_Md_image_2 ?_
  refine rn_lets (fun s1 => ?_)
  refine rn_aload_n (pc := 5) 0 dk_Md_image_5 rfl rfl rfl ?_
  refine rn_aload_n (pc := 6) 0 dk_Md_image_6 rfl rfl rfl ?_
  refine gf_Md_75 (pc := 7) rfl dk_Md_image_7 ?_
  refine rn_iconst (pc := 10) (0 : Int32) dk_Md_image_10 cn_i_0 ?_
  refine cl_Md_167 (pc := 11) (As := [.ref 88, .int (0 : Int32)]) (st := []) rfl (ct_Md_all X 88 rfl (0 : Int32) s1) (Nat.le_trans (Nat.le_of_ble_eq_true rfl) hF0) rfl rfl (Nat.le_of_ble_eq_true rfl) dk_Md_image_11 (fun q2 => ?_)
  refine rn_aload_n (pc := 14) 0 dk_Md_image_14 rfl rfl rfl ?_
  refine gf_Md_90 (pc := 15) rfl dk_Md_image_15 ?_
  exact rn_iret rfl dk_Md_image_18
theorem dk_Md_restore_0 : decode mi_Md_restore.2.1 0 = .ok (.aload_n 0, 1) := by decide +kernel
theorem dk_Md_restore_1 : decode mi_Md_restore.2.1 1 = .ok (.getfield 277, 3) := by decide +kernel
theorem dk_Md_restore_4 : decode mi_Md_restore.2.1 4 = .ok (.ifCond .ne 10, 3) := by decide +kernel
theorem dk_Md_restore_7 : decode mi_Md_restore.2.1 7 = .ok (.aload_n 0, 1) := by decide +kernel
theorem dk_Md_restore_8 : decode mi_Md_restore.2.1 8 = .ok (.bipush (-6), 2) := by decide +kernel
theorem dk_Md_restore_10 : decode mi_Md_restore.2.1 10 = .ok (.invokevirtual 97, 3) := by decide +kernel
theorem dk_Md_restore_13 : decode mi_Md_restore.2.1 13 = .ok (.ireturn, 1) := by decide +kernel
theorem dk_Md_restore_14 : decode mi_Md_restore.2.1 14 = .ok (.aload_n 0, 1) := by decide +kernel
theorem dk_Md_restore_15 : decode mi_Md_restore.2.1 15 = .ok (.aload_n 0, 1) := by decide +kernel
theorem dk_Md_restore_16 : decode mi_Md_restore.2.1 16 = .ok (.getfield 75, 3) := by decide +kernel
theorem dk_Md_restore_19 : decode mi_Md_restore.2.1 19 = .ok (.iconst 1, 1) := by decide +kernel
theorem dk_Md_restore_20 : decode mi_Md_restore.2.1 20 = .ok (.invokevirtual 167, 3) := by decide +kernel
theorem dk_Md_restore_23 : decode mi_Md_restore.2.1 23 = .ok (.iconst 0, 1) := by decide +kernel
theorem dk_Md_restore_24 : decode mi_Md_restore.2.1 24 = .ok (.istore_n 1, 1) := by decide +kernel
theorem dk_Md_restore_25 : decode mi_Md_restore.2.1 25 = .ok (.iload_n 1, 1) := by decide +kernel
theorem dk_Md_restore_26 : decode mi_Md_restore.2.1 26 = .ok (.bipush 8, 2) := by decide +kernel
theorem dk_Md_restore_28 : decode mi_Md_restore.2.1 28 = .ok (.if_icmp .ge 39, 3) := by decide +kernel
theorem dk_Md_restore_31 : decode mi_Md_restore.2.1 31 = .ok (.aload_n 0, 1) := by decide +kernel
theorem dk_Md_restore_32 : decode mi_Md_restore.2.1 32 = .ok (.getfield 44, 3) := by decide +kernel
theorem dk_Md_restore_35 : decode mi_Md_restore.2.1 35 = .ok (.iload_n 1, 1) := by decide +kernel
theorem dk_Md_restore_36 : decode mi_Md_restore.2.1 36 = .ok (.iaload, 1) := by decide +kernel
theorem dk_Md_restore_37 : decode mi_Md_restore.2.1 37 = .ok (.iconst 2, 1) := by decide +kernel
theorem dk_Md_restore_38 : decode mi_Md_restore.2.1 38 = .ok (.if_icmp .ne 23, 3) := by decide +kernel
theorem dk_Md_restore_41 : decode mi_Md_restore.2.1 41 = .ok (.aload_n 0, 1) := by decide +kernel
theorem dk_Md_restore_42 : decode mi_Md_restore.2.1 42 = .ok (.getfield 53, 3) := by decide +kernel
theorem dk_Md_restore_45 : decode mi_Md_restore.2.1 45 = .ok (.iload_n 1, 1) := by decide +kernel
theorem dk_Md_restore_46 : decode mi_Md_restore.2.1 46 = .ok (.iaload, 1) := by decide +kernel
theorem dk_Md_restore_47 : decode mi_Md_restore.2.1 47 = .ok (.aload_n 0, 1) := by decide +kernel
theorem dk_Md_restore_48 : decode mi_Md_restore.2.1 48 = .ok (.getfield 90, 3) := by decide +kernel
theorem dk_Md_restore_51 : decode mi_Md_restore.2.1 51 = .ok (.if_icmp .lt 10, 3) := by decide +kernel
theorem dk_Md_restore_54 : decode mi_Md_restore.2.1 54 = .ok (.aload_n 0, 1) := by decide +kernel
theorem dk_Md_restore_55 : decode mi_Md_restore.2.1 55 = .ok (.getfield 44, 3) := by decide +kernel
theorem dk_Md_restore_58 : decode mi_Md_restore.2.1 58 = .ok (.iload_n 1, 1) := by decide +kernel
theorem dk_Md_restore_59 : decode mi_Md_restore.2.1 59 = .ok (.iconst 0, 1) := by decide +kernel
theorem dk_Md_restore_60 : decode mi_Md_restore.2.1 60 = .ok (.iastore, 1) := by decide +kernel
theorem dk_Md_restore_61 : decode mi_Md_restore.2.1 61 = .ok (.iinc 1 1, 3) := by decide +kernel
theorem dk_Md_restore_64 : decode mi_Md_restore.2.1 64 = .ok (.goto (-39), 3) := by decide +kernel
theorem dk_Md_restore_67 : decode mi_Md_restore.2.1 67 = .ok (.aload_n 0, 1) := by decide +kernel
theorem dk_Md_restore_68 : decode mi_Md_restore.2.1 68 = .ok (.getfield 90, 3) := by decide +kernel
theorem dk_Md_restore_71 : decode mi_Md_restore.2.1 71 = .ok (.ireturn, 1) := by decide +kernel
def Md_restore_l25 (k_67 : nm_St → Option (Int32 × nm_St)) : Nat → Int32 → nm_St → Option (Int32 × nm_St)
  | 0, _, _ => none
  | n + 1, x1, σ =>
    (if (8 : Int32) ≤ x1 then
      k_67 σ
    else
      (nm_g (nm_in x1 8) (
      (if (σ.1 78 x1.toNatClampNeg) = (2 : Int32) then
        (nm_g (nm_in x1 8) (
        (if (σ.1 81 x1.toNatClampNeg) < (σ.1 70 0) then
          (Md_restore_l25 k_67 n) (x1 + (1 : Int32)) σ
        else
          (nm_g (nm_in x1 8) (
          (nm_let (nm_pI σ 78 x1.toNatClampNeg (0 : Int32)) fun s9 =>
          (Md_restore_l25 k_67 n) (x1 + (1 : Int32)) s9))))))
      else
        (Md_restore_l25 k_67 n) (x1 + (1 : Int32)) σ))))
set_option maxRecDepth 100000 in
set_option maxHeartbeats 4000000 in
theorem r_Md_restore_l25 (X : nm_X) (F : nm_F) (hF0 : 2 ≤ nm_d F) (k_67 : nm_St → Option (Int32 × nm_St)) (hk_67 : ∀ (σ : nm_St), Rn X mi_Md_restore F (nm_Qf X F nm_wI) [(0, .ref 70)] [] 67 σ (k_67 σ)) : ∀ (n : Nat) (x1 : Int32) (σ : nm_St), Rn X mi_Md_restore F (nm_Qf X F nm_wI) [(0, .ref 70), (1, .int x1)] [] 25 σ (Md_restore_l25 k_67 n x1 σ) := by
  intro n
  induction n with
  | zero =>
    intro x1 σ
    exact rn_none
  | succ n ih =>
    intro x1 σ
    unfold Md_restore_l25
    refine rn_iload_n (pc := 25) 1 dk_Md_restore_25 rfl rfl ?_
    refine rn_bipush (pc := 26) (8 : Int32) dk_Md_restore_26 cn_b_8 ?_
    refine rn_icmp_ge (pc := 28) 67 dk_Md_restore_28 (by decide) (fun c3 => ?_) (fun c3 => ?_)
    · exact rn_sub (by rfl) (hk_67 σ)
    · refine rn_aload_n (pc := 31) 0 dk_Md_restore_31 rfl rfl rfl ?_
      refine gf_Md_44 (pc := 32) rfl dk_Md_restore_32 ?_
      refine rn_iload_n (pc := 35) 1 dk_Md_restore_35 rfl rfl ?_
      refine rn_iaload (pc := 36) rfl dk_Md_restore_36 (fun g4 => ?_)
      refine rn_iconst (pc := 37) (2 : Int32) dk_Md_restore_37 cn_i_2 ?_
      refine rn_icmp_ne (pc := 38) 61 dk_Md_restore_38 (by decide) (fun c5 => ?_) (fun c5 => ?_)
      · refine rn_iinc (pc := 61) (1 : Int32) dk_Md_restore_61 cn_i_1 rfl rfl rfl ?_
        refine rn_goto (pc := 64) 25 dk_Md_restore_64 (by decide) ?_
        exact rn_sub (by rfl) (ih (x1 + (1 : Int32)) σ)
      · refine rn_aload_n (pc := 41) 0 dk_Md_restore_41 rfl rfl rfl ?_
        refine gf_Md_53 (pc := 42) rfl dk_Md_restore_42 ?_
        refine rn_iload_n (pc := 45) 1 dk_Md_restore_45 rfl rfl ?_
        refine rn_iaload (pc := 46) rfl dk_Md_restore_46 (fun g6 => ?_)
        refine rn_aload_n (pc := 47) 0 dk_Md_restore_47 rfl rfl rfl ?_
        refine gf_Md_90 (pc := 48) rfl dk_Md_restore_48 ?_
        refine rn_icmp_lt (pc := 51) 61 dk_Md_restore_51 (by decide) (fun c7 => ?_) (fun c7 => ?_)
        · refine rn_iinc (pc := 61) (1 : Int32) dk_Md_restore_61 cn_i_1 rfl rfl rfl ?_
          refine rn_goto (pc := 64) 25 dk_Md_restore_64 (by decide) ?_
          exact rn_sub (by rfl) (ih (x1 + (1 : Int32)) σ)
        · refine rn_aload_n (pc := 54) 0 dk_Md_restore_54 rfl rfl rfl ?_
          refine gf_Md_44 (pc := 55) rfl dk_Md_restore_55 ?_
          refine rn_iload_n (pc := 58) 1 dk_Md_restore_58 rfl rfl ?_
          refine rn_iconst (pc := 59) (0 : Int32) dk_Md_restore_59 cn_i_0 ?_
          refine rn_iastore (pc := 60) rfl dk_Md_restore_60 (fun g8 => ?_)
          refine rn_lets (fun s9 => ?_)
          refine rn_iinc (pc := 61) (1 : Int32) dk_Md_restore_61 cn_i_1 rfl rfl rfl ?_
          refine rn_goto (pc := 64) 25 dk_Md_restore_64 (by decide) ?_
          exact rn_sub (by rfl) (ih (x1 + (1 : Int32)) s9)
def Md_restore (σ : nm_St) : Option (Int32 × nm_St) :=
  (if (σ.1 70 36) = 0 then
    ((Md_no (-6 : Int32) σ).bind fun q11 =>
    some (q11.1, q11.2))
  else
    ((Md_all 88 (1 : Int32) σ).bind fun q2 =>
    Md_restore_l25 (fun (s10 : nm_St) =>
      some ((s10.1 70 0), s10)) 400 (0 : Int32) q2.2))
set_option maxRecDepth 100000 in
set_option maxHeartbeats 4000000 in
theorem ct_Md_restore (X : nm_X) (σ : nm_St) : Ct X mi_Md_restore 2 nm_wI [.ref 70] σ (Md_restore σ) := by
  refine Ct.of (by decide +kernel) rfl (fun F hF0 => ?_)
  unfold Md_restore
  refine rn_aload_n (pc := 0) 0 dk_Md_restore_0 rfl rfl rfl ?_
  refine gf_Md_277 (pc := 1) rfl dk_Md_restore_1 ?_
  refine rn_if_ne (pc := 4) 14 dk_Md_restore_4 (by decide) (fun c1 => ?_) (fun c1 => ?_)
  · refine rn_aload_n (pc := 14) 0 dk_Md_restore_14 rfl rfl rfl ?_
    refine rn_aload_n (pc := 15) 0 dk_Md_restore_15 rfl rfl rfl ?_
    refine gf_Md_75 (pc := 16) rfl dk_Md_restore_16 ?_
    refine rn_iconst (pc := 19) (1 : Int32) dk_Md_restore_19 cn_i_1 ?_
    refine cl_Md_167 (pc := 20) (As := [.ref 88, .int (1 : Int32)]) (st := []) rfl (ct_Md_all X 88 rfl (1 : Int32) σ) (Nat.le_trans (Nat.le_of_ble_eq_true rfl) hF0) rfl rfl (Nat.le_of_ble_eq_true rfl) dk_Md_restore_20 (fun q2 => ?_)
    refine rn_iconst (pc := 23) (0 : Int32) dk_Md_restore_23 cn_i_0 ?_
    refine rn_istore_n (pc := 24) 1 dk_Md_restore_24 rfl rfl rfl ?_
    refine rn_sub (by rfl) (r_Md_restore_l25 X F hF0 _ (fun s10 => ?_) 400 (0 : Int32) q2.2)
    refine rn_aload_n (pc := 67) 0 dk_Md_restore_67 rfl rfl rfl ?_
    refine gf_Md_90 (pc := 68) rfl dk_Md_restore_68 ?_
    exact rn_iret rfl dk_Md_restore_71
  · refine rn_aload_n (pc := 7) 0 dk_Md_restore_7 rfl rfl rfl ?_
    refine rn_bipush (pc := 8) (-6 : Int32) dk_Md_restore_8 cn_b_m6 ?_
    refine cl_Md_97 (pc := 10) (As := [.int (-6 : Int32)]) (st := []) rfl (ct_Md_no X (-6 : Int32) σ) (Nat.le_trans (Nat.le_of_ble_eq_true rfl) hF0) rfl rfl (Nat.le_of_ble_eq_true rfl) dk_Md_restore_10 (fun q11 => ?_)
    exact rn_iret rfl dk_Md_restore_13
theorem dk_Md_status_0 : decode mi_Md_status.2.1 0 = .ok (.iload_n 1, 1) := by decide +kernel
theorem dk_Md_status_1 : decode mi_Md_status.2.1 1 = .ok (.bipush 11, 2) := by decide +kernel
theorem dk_Md_status_3 : decode mi_Md_status.2.1 3 = .ok (.if_icmp .lt 19, 3) := by decide +kernel
theorem dk_Md_status_6 : decode mi_Md_status.2.1 6 = .ok (.iload_n 1, 1) := by decide +kernel
theorem dk_Md_status_7 : decode mi_Md_status.2.1 7 = .ok (.bipush 17, 2) := by decide +kernel
theorem dk_Md_status_9 : decode mi_Md_status.2.1 9 = .ok (.if_icmp .gt 13, 3) := by decide +kernel
theorem dk_Md_status_12 : decode mi_Md_status.2.1 12 = .ok (.aload_n 0, 1) := by decide +kernel
theorem dk_Md_status_13 : decode mi_Md_status.2.1 13 = .ok (.getfield 22, 3) := by decide +kernel
theorem dk_Md_status_16 : decode mi_Md_status.2.1 16 = .ok (.iload_n 1, 1) := by decide +kernel
theorem dk_Md_status_17 : decode mi_Md_status.2.1 17 = .ok (.bipush 10, 2) := by decide +kernel
theorem dk_Md_status_19 : decode mi_Md_status.2.1 19 = .ok (.isub, 1) := by decide +kernel
theorem dk_Md_status_20 : decode mi_Md_status.2.1 20 = .ok (.iaload, 1) := by decide +kernel
theorem dk_Md_status_21 : decode mi_Md_status.2.1 21 = .ok (.ireturn, 1) := by decide +kernel
theorem dk_Md_status_22 : decode mi_Md_status.2.1 22 = .ok (.iload_n 1, 1) := by decide +kernel
theorem dk_Md_status_23 : decode mi_Md_status.2.1 23 = .ok (.tableswitch 118 0 9 #[53, 58, 63, 73, 83, 93, 98, 103, 108, 113], 53) := by decide +kernel
theorem dk_Md_status_76 : decode mi_Md_status.2.1 76 = .ok (.aload_n 0, 1) := by decide +kernel
theorem dk_Md_status_77 : decode mi_Md_status.2.1 77 = .ok (.getfield 90, 3) := by decide +kernel
theorem dk_Md_status_80 : decode mi_Md_status.2.1 80 = .ok (.ireturn, 1) := by decide +kernel
theorem dk_Md_status_81 : decode mi_Md_status.2.1 81 = .ok (.aload_n 0, 1) := by decide +kernel
theorem dk_Md_status_82 : decode mi_Md_status.2.1 82 = .ok (.getfield 7, 3) := by decide +kernel
theorem dk_Md_status_85 : decode mi_Md_status.2.1 85 = .ok (.ireturn, 1) := by decide +kernel
theorem dk_Md_status_86 : decode mi_Md_status.2.1 86 = .ok (.aload_n 0, 1) := by decide +kernel
theorem dk_Md_status_87 : decode mi_Md_status.2.1 87 = .ok (.aload_n 0, 1) := by decide +kernel
theorem dk_Md_status_88 : decode mi_Md_status.2.1 88 = .ok (.iconst 0, 1) := by decide +kernel
theorem dk_Md_status_89 : decode mi_Md_status.2.1 89 = .ok (.invokevirtual 183, 3) := by decide +kernel
theorem dk_Md_status_92 : decode mi_Md_status.2.1 92 = .ok (.invokevirtual 189, 3) := by decide +kernel
theorem dk_Md_status_95 : decode mi_Md_status.2.1 95 = .ok (.ireturn, 1) := by decide +kernel
theorem dk_Md_status_96 : decode mi_Md_status.2.1 96 = .ok (.aload_n 0, 1) := by decide +kernel
theorem dk_Md_status_97 : decode mi_Md_status.2.1 97 = .ok (.aload_n 0, 1) := by decide +kernel
theorem dk_Md_status_98 : decode mi_Md_status.2.1 98 = .ok (.iconst 1, 1) := by decide +kernel
theorem dk_Md_status_99 : decode mi_Md_status.2.1 99 = .ok (.invokevirtual 183, 3) := by decide +kernel
theorem dk_Md_status_102 : decode mi_Md_status.2.1 102 = .ok (.invokevirtual 189, 3) := by decide +kernel
theorem dk_Md_status_105 : decode mi_Md_status.2.1 105 = .ok (.ireturn, 1) := by decide +kernel
theorem dk_Md_status_106 : decode mi_Md_status.2.1 106 = .ok (.aload_n 0, 1) := by decide +kernel
theorem dk_Md_status_107 : decode mi_Md_status.2.1 107 = .ok (.aload_n 0, 1) := by decide +kernel
theorem dk_Md_status_108 : decode mi_Md_status.2.1 108 = .ok (.iconst 3, 1) := by decide +kernel
theorem dk_Md_status_109 : decode mi_Md_status.2.1 109 = .ok (.invokevirtual 183, 3) := by decide +kernel
theorem dk_Md_status_112 : decode mi_Md_status.2.1 112 = .ok (.invokevirtual 189, 3) := by decide +kernel
theorem dk_Md_status_115 : decode mi_Md_status.2.1 115 = .ok (.ireturn, 1) := by decide +kernel
theorem dk_Md_status_116 : decode mi_Md_status.2.1 116 = .ok (.aload_n 0, 1) := by decide +kernel
theorem dk_Md_status_117 : decode mi_Md_status.2.1 117 = .ok (.getfield 118, 3) := by decide +kernel
theorem dk_Md_status_120 : decode mi_Md_status.2.1 120 = .ok (.ireturn, 1) := by decide +kernel
theorem dk_Md_status_121 : decode mi_Md_status.2.1 121 = .ok (.aload_n 0, 1) := by decide +kernel
theorem dk_Md_status_122 : decode mi_Md_status.2.1 122 = .ok (.getfield 13, 3) := by decide +kernel
theorem dk_Md_status_125 : decode mi_Md_status.2.1 125 = .ok (.ireturn, 1) := by decide +kernel
theorem dk_Md_status_126 : decode mi_Md_status.2.1 126 = .ok (.aload_n 0, 1) := by decide +kernel
theorem dk_Md_status_127 : decode mi_Md_status.2.1 127 = .ok (.getfield 161, 3) := by decide +kernel
theorem dk_Md_status_130 : decode mi_Md_status.2.1 130 = .ok (.ireturn, 1) := by decide +kernel
theorem dk_Md_status_131 : decode mi_Md_status.2.1 131 = .ok (.aload_n 0, 1) := by decide +kernel
theorem dk_Md_status_132 : decode mi_Md_status.2.1 132 = .ok (.getfield 16, 3) := by decide +kernel
theorem dk_Md_status_135 : decode mi_Md_status.2.1 135 = .ok (.ireturn, 1) := by decide +kernel
theorem dk_Md_status_136 : decode mi_Md_status.2.1 136 = .ok (.aload_n 0, 1) := by decide +kernel
theorem dk_Md_status_137 : decode mi_Md_status.2.1 137 = .ok (.getfield 262, 3) := by decide +kernel
theorem dk_Md_status_140 : decode mi_Md_status.2.1 140 = .ok (.ireturn, 1) := by decide +kernel
theorem dk_Md_status_141 : decode mi_Md_status.2.1 141 = .ok (.iconst (-1), 1) := by decide +kernel
theorem dk_Md_status_142 : decode mi_Md_status.2.1 142 = .ok (.ireturn, 1) := by decide +kernel
def Md_status_j22 (x1 : Int32) (σ : nm_St) : Option (Int32 × nm_St) :=
  (if x1 = (0 : Int32) then
    some ((σ.1 70 0), σ)
  else
  (if x1 = (1 : Int32) then
    some ((σ.1 70 1), σ)
  else
  (if x1 = (2 : Int32) then
    ((Md_those (0 : Int32) σ).bind fun q3 =>
    ((Md_ones q3.1 q3.2).bind fun q4 =>
    some (q4.1, q4.2)))
  else
  (if x1 = (3 : Int32) then
    ((Md_those (1 : Int32) σ).bind fun q5 =>
    ((Md_ones q5.1 q5.2).bind fun q6 =>
    some (q6.1, q6.2)))
  else
  (if x1 = (4 : Int32) then
    ((Md_those (3 : Int32) σ).bind fun q7 =>
    ((Md_ones q7.1 q7.2).bind fun q8 =>
    some (q8.1, q8.2)))
  else
  (if x1 = (5 : Int32) then
    some ((σ.1 70 2), σ)
  else
  (if x1 = (6 : Int32) then
    some ((σ.1 70 3), σ)
  else
  (if x1 = (7 : Int32) then
    some ((σ.1 70 4), σ)
  else
  (if x1 = (8 : Int32) then
    some ((σ.1 70 5), σ)
  else
  (if x1 = (9 : Int32) then
    some ((σ.1 70 35), σ)
  else
    some ((-1 : Int32), σ)))))))))))
set_option maxRecDepth 100000 in
set_option maxHeartbeats 4000000 in
theorem r_Md_status_j22 (X : nm_X) (F : nm_F) (hF0 : 1 ≤ nm_d F) (x1 : Int32) (σ : nm_St) : Rn X mi_Md_status F (nm_Qf X F nm_wI) [(0, .ref 70), (1, .int x1)] [] 22 σ (Md_status_j22 x1 σ) := by
  unfold Md_status_j22
  refine rn_iload_n (pc := 22) 1 dk_Md_status_22 rfl rfl ?_
  refine rn_tcase (pc := 23) 0 (0 : Int32) 76 dk_Md_status_23 (by decide) (by decide) rfl (by decide) (fun c2_0 => ?_) (fun c2_0 => ?_)
  · refine rn_aload_n (pc := 76) 0 dk_Md_status_76 rfl rfl rfl ?_
    refine gf_Md_90 (pc := 77) rfl dk_Md_status_77 ?_
    exact rn_iret rfl dk_Md_status_80
  refine rn_tcase (pc := 23) 1 (1 : Int32) 81 dk_Md_status_23 (by decide) (by decide) rfl (by decide) (fun c2_1 => ?_) (fun c2_1 => ?_)
  · refine rn_aload_n (pc := 81) 0 dk_Md_status_81 rfl rfl rfl ?_
    refine gf_Md_7 (pc := 82) rfl dk_Md_status_82 ?_
    exact rn_iret rfl dk_Md_status_85
  refine rn_tcase (pc := 23) 2 (2 : Int32) 86 dk_Md_status_23 (by decide) (by decide) rfl (by decide) (fun c2_2 => ?_) (fun c2_2 => ?_)
  · refine rn_aload_n (pc := 86) 0 dk_Md_status_86 rfl rfl rfl ?_
    refine rn_aload_n (pc := 87) 0 dk_Md_status_87 rfl rfl rfl ?_
    refine rn_iconst (pc := 88) (0 : Int32) dk_Md_status_88 cn_i_0 ?_
    refine cl_Md_183 (pc := 89) (As := [.int (0 : Int32)]) (st := [.ref 70]) rfl (ct_Md_those X (0 : Int32) σ) (Nat.le_trans (Nat.le_of_ble_eq_true rfl) hF0) rfl rfl (Nat.le_of_ble_eq_true rfl) dk_Md_status_89 (fun q3 => ?_)
    refine cl_Md_189 (pc := 92) (As := [.int q3.1]) (st := []) rfl (ct_Md_ones X q3.1 q3.2) (Nat.le_trans (Nat.le_of_ble_eq_true rfl) hF0) rfl rfl (Nat.le_of_ble_eq_true rfl) dk_Md_status_92 (fun q4 => ?_)
    exact rn_iret rfl dk_Md_status_95
  refine rn_tcase (pc := 23) 3 (3 : Int32) 96 dk_Md_status_23 (by decide) (by decide) rfl (by decide) (fun c2_3 => ?_) (fun c2_3 => ?_)
  · refine rn_aload_n (pc := 96) 0 dk_Md_status_96 rfl rfl rfl ?_
    refine rn_aload_n (pc := 97) 0 dk_Md_status_97 rfl rfl rfl ?_
    refine rn_iconst (pc := 98) (1 : Int32) dk_Md_status_98 cn_i_1 ?_
    refine cl_Md_183 (pc := 99) (As := [.int (1 : Int32)]) (st := [.ref 70]) rfl (ct_Md_those X (1 : Int32) σ) (Nat.le_trans (Nat.le_of_ble_eq_true rfl) hF0) rfl rfl (Nat.le_of_ble_eq_true rfl) dk_Md_status_99 (fun q5 => ?_)
    refine cl_Md_189 (pc := 102) (As := [.int q5.1]) (st := []) rfl (ct_Md_ones X q5.1 q5.2) (Nat.le_trans (Nat.le_of_ble_eq_true rfl) hF0) rfl rfl (Nat.le_of_ble_eq_true rfl) dk_Md_status_102 (fun q6 => ?_)
    exact rn_iret rfl dk_Md_status_105
  refine rn_tcase (pc := 23) 4 (4 : Int32) 106 dk_Md_status_23 (by decide) (by decide) rfl (by decide) (fun c2_4 => ?_) (fun c2_4 => ?_)
  · refine rn_aload_n (pc := 106) 0 dk_Md_status_106 rfl rfl rfl ?_
    refine rn_aload_n (pc := 107) 0 dk_Md_status_107 rfl rfl rfl ?_
    refine rn_iconst (pc := 108) (3 : Int32) dk_Md_status_108 cn_i_3 ?_
    refine cl_Md_183 (pc := 109) (As := [.int (3 : Int32)]) (st := [.ref 70]) rfl (ct_Md_those X (3 : Int32) σ) (Nat.le_trans (Nat.le_of_ble_eq_true rfl) hF0) rfl rfl (Nat.le_of_ble_eq_true rfl) dk_Md_status_109 (fun q7 => ?_)
    refine cl_Md_189 (pc := 112) (As := [.int q7.1]) (st := []) rfl (ct_Md_ones X q7.1 q7.2) (Nat.le_trans (Nat.le_of_ble_eq_true rfl) hF0) rfl rfl (Nat.le_of_ble_eq_true rfl) dk_Md_status_112 (fun q8 => ?_)
    exact rn_iret rfl dk_Md_status_115
  refine rn_tcase (pc := 23) 5 (5 : Int32) 116 dk_Md_status_23 (by decide) (by decide) rfl (by decide) (fun c2_5 => ?_) (fun c2_5 => ?_)
  · refine rn_aload_n (pc := 116) 0 dk_Md_status_116 rfl rfl rfl ?_
    refine gf_Md_118 (pc := 117) rfl dk_Md_status_117 ?_
    exact rn_iret rfl dk_Md_status_120
  refine rn_tcase (pc := 23) 6 (6 : Int32) 121 dk_Md_status_23 (by decide) (by decide) rfl (by decide) (fun c2_6 => ?_) (fun c2_6 => ?_)
  · refine rn_aload_n (pc := 121) 0 dk_Md_status_121 rfl rfl rfl ?_
    refine gf_Md_13 (pc := 122) rfl dk_Md_status_122 ?_
    exact rn_iret rfl dk_Md_status_125
  refine rn_tcase (pc := 23) 7 (7 : Int32) 126 dk_Md_status_23 (by decide) (by decide) rfl (by decide) (fun c2_7 => ?_) (fun c2_7 => ?_)
  · refine rn_aload_n (pc := 126) 0 dk_Md_status_126 rfl rfl rfl ?_
    refine gf_Md_161 (pc := 127) rfl dk_Md_status_127 ?_
    exact rn_iret rfl dk_Md_status_130
  refine rn_tcase (pc := 23) 8 (8 : Int32) 131 dk_Md_status_23 (by decide) (by decide) rfl (by decide) (fun c2_8 => ?_) (fun c2_8 => ?_)
  · refine rn_aload_n (pc := 131) 0 dk_Md_status_131 rfl rfl rfl ?_
    refine gf_Md_16 (pc := 132) rfl dk_Md_status_132 ?_
    exact rn_iret rfl dk_Md_status_135
  refine rn_tcase (pc := 23) 9 (9 : Int32) 136 dk_Md_status_23 (by decide) (by decide) rfl (by decide) (fun c2_9 => ?_) (fun c2_9 => ?_)
  · refine rn_aload_n (pc := 136) 0 dk_Md_status_136 rfl rfl rfl ?_
    refine gf_Md_262 (pc := 137) rfl dk_Md_status_137 ?_
    exact rn_iret rfl dk_Md_status_140
  refine rn_tdef (pc := 23) [(0 : Int32), (1 : Int32), (2 : Int32), (3 : Int32), (4 : Int32), (5 : Int32), (6 : Int32), (7 : Int32), (8 : Int32), (9 : Int32)] 141 dk_Md_status_23 (by decide) (by decide) (List.forall_mem_cons.mpr ⟨c2_0, (List.forall_mem_cons.mpr ⟨c2_1, (List.forall_mem_cons.mpr ⟨c2_2, (List.forall_mem_cons.mpr ⟨c2_3, (List.forall_mem_cons.mpr ⟨c2_4, (List.forall_mem_cons.mpr ⟨c2_5, (List.forall_mem_cons.mpr ⟨c2_6, (List.forall_mem_cons.mpr ⟨c2_7, (List.forall_mem_cons.mpr ⟨c2_8, (List.forall_mem_cons.mpr ⟨c2_9, (fun _ h => absurd h List.not_mem_nil)⟩)⟩)⟩)⟩)⟩)⟩)⟩)⟩)⟩)⟩) (by decide) ?_
  refine rn_iconst (pc := 141) (-1 : Int32) dk_Md_status_141 cn_i_m1 ?_
  exact rn_iret rfl dk_Md_status_142
def Md_status (p1 : Int32) (σ : nm_St) : Option (Int32 × nm_St) :=
  (if p1 < (11 : Int32) then
    Md_status_j22 p1 σ
  else
    (if (17 : Int32) < p1 then
      Md_status_j22 p1 σ
    else
      (nm_g (nm_in (p1 - (10 : Int32)) 8) (
      some ((σ.1 71 (p1 - (10 : Int32)).toNatClampNeg), σ)))))
set_option maxRecDepth 100000 in
set_option maxHeartbeats 4000000 in
theorem ct_Md_status (X : nm_X) (p1 : Int32) (σ : nm_St) : Ct X mi_Md_status 1 nm_wI [.ref 70, .int p1] σ (Md_status p1 σ) := by
  refine Ct.of (by decide +kernel) rfl (fun F hF0 => ?_)
  unfold Md_status
  refine rn_iload_n (pc := 0) 1 dk_Md_status_0 rfl rfl ?_
  refine rn_bipush (pc := 1) (11 : Int32) dk_Md_status_1 cn_b_11 ?_
  refine rn_icmp_lt (pc := 3) 22 dk_Md_status_3 (by decide) (fun c1 => ?_) (fun c1 => ?_)
  · exact rn_sub (by rfl) (r_Md_status_j22 X F hF0 p1 σ)
  · refine rn_iload_n (pc := 6) 1 dk_Md_status_6 rfl rfl ?_
    refine rn_bipush (pc := 7) (17 : Int32) dk_Md_status_7 cn_b_17 ?_
    refine rn_icmp_gt (pc := 9) 22 dk_Md_status_9 (by decide) (fun c9 => ?_) (fun c9 => ?_)
    · exact rn_sub (by rfl) (r_Md_status_j22 X F hF0 p1 σ)
    · refine rn_aload_n (pc := 12) 0 dk_Md_status_12 rfl rfl rfl ?_
      refine gf_Md_22 (pc := 13) rfl dk_Md_status_13 ?_
      refine rn_iload_n (pc := 16) 1 dk_Md_status_16 rfl rfl ?_
      refine rn_bipush (pc := 17) (10 : Int32) dk_Md_status_17 cn_b_10 ?_
      refine rn_isub (pc := 19) dk_Md_status_19 ?_
      refine rn_iaload (pc := 20) rfl dk_Md_status_20 (fun g10 => ?_)
      exact rn_iret rfl dk_Md_status_21
