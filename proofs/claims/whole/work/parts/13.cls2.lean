theorem dk_Tr_readAll_0 : decode mi_Tr_readAll.2.1 0 = .ok (.aload_n 0, 1) := by decide +kernel
theorem dk_Tr_readAll_1 : decode mi_Tr_readAll.2.1 1 = .ok (.getfield 12, 3) := by decide +kernel
theorem dk_Tr_readAll_4 : decode mi_Tr_readAll.2.1 4 = .ok (.aload_n 2, 1) := by decide +kernel
theorem dk_Tr_readAll_5 : decode mi_Tr_readAll.2.1 5 = .ok (.invokevirtual 38, 3) := by decide +kernel
theorem dk_Tr_readAll_8 : decode mi_Tr_readAll.2.1 8 = .ok (.aload_n 0, 1) := by decide +kernel
theorem dk_Tr_readAll_9 : decode mi_Tr_readAll.2.1 9 = .ok (.aload_n 1, 1) := by decide +kernel
theorem dk_Tr_readAll_10 : decode mi_Tr_readAll.2.1 10 = .ok (.invokevirtual 42, 3) := by decide +kernel
theorem dk_Tr_readAll_13 : decode mi_Tr_readAll.2.1 13 = .ok (.aload_n 0, 1) := by decide +kernel
theorem dk_Tr_readAll_14 : decode mi_Tr_readAll.2.1 14 = .ok (.iconst 0, 1) := by decide +kernel
theorem dk_Tr_readAll_15 : decode mi_Tr_readAll.2.1 15 = .ok (.putfield 26, 3) := by decide +kernel
theorem dk_Tr_readAll_18 : decode mi_Tr_readAll.2.1 18 = .ok (.aload_n 0, 1) := by decide +kernel
theorem dk_Tr_readAll_19 : decode mi_Tr_readAll.2.1 19 = .ok (.iconst 0, 1) := by decide +kernel
theorem dk_Tr_readAll_20 : decode mi_Tr_readAll.2.1 20 = .ok (.putfield 32, 3) := by decide +kernel
theorem dk_Tr_readAll_23 : decode mi_Tr_readAll.2.1 23 = .ok (.aload_n 0, 1) := by decide +kernel
theorem dk_Tr_readAll_24 : decode mi_Tr_readAll.2.1 24 = .ok (.iconst (-1), 1) := by decide +kernel
theorem dk_Tr_readAll_25 : decode mi_Tr_readAll.2.1 25 = .ok (.putfield 35, 3) := by decide +kernel
theorem dk_Tr_readAll_28 : decode mi_Tr_readAll.2.1 28 = .ok (.iconst 0, 1) := by decide +kernel
theorem dk_Tr_readAll_29 : decode mi_Tr_readAll.2.1 29 = .ok (.istore_n 3, 1) := by decide +kernel
theorem dk_Tr_readAll_30 : decode mi_Tr_readAll.2.1 30 = .ok (.iload_n 3, 1) := by decide +kernel
theorem dk_Tr_readAll_31 : decode mi_Tr_readAll.2.1 31 = .ok (.sipush 160, 3) := by decide +kernel
theorem dk_Tr_readAll_34 : decode mi_Tr_readAll.2.1 34 = .ok (.if_icmp .gt 51, 3) := by decide +kernel
theorem dk_Tr_readAll_37 : decode mi_Tr_readAll.2.1 37 = .ok (.aload_n 0, 1) := by decide +kernel
theorem dk_Tr_readAll_38 : decode mi_Tr_readAll.2.1 38 = .ok (.getfield 35, 3) := by decide +kernel
theorem dk_Tr_readAll_41 : decode mi_Tr_readAll.2.1 41 = .ok (.iconst (-1), 1) := by decide +kernel
theorem dk_Tr_readAll_42 : decode mi_Tr_readAll.2.1 42 = .ok (.if_icmp .ne 43, 3) := by decide +kernel
theorem dk_Tr_readAll_45 : decode mi_Tr_readAll.2.1 45 = .ok (.aload_n 0, 1) := by decide +kernel
theorem dk_Tr_readAll_46 : decode mi_Tr_readAll.2.1 46 = .ok (.invokevirtual 46, 3) := by decide +kernel
theorem dk_Tr_readAll_49 : decode mi_Tr_readAll.2.1 49 = .ok (.aload_n 0, 1) := by decide +kernel
theorem dk_Tr_readAll_50 : decode mi_Tr_readAll.2.1 50 = .ok (.dup, 1) := by decide +kernel
theorem dk_Tr_readAll_51 : decode mi_Tr_readAll.2.1 51 = .ok (.getfield 32, 3) := by decide +kernel
theorem dk_Tr_readAll_54 : decode mi_Tr_readAll.2.1 54 = .ok (.iconst 1, 1) := by decide +kernel
theorem dk_Tr_readAll_55 : decode mi_Tr_readAll.2.1 55 = .ok (.iadd, 1) := by decide +kernel
theorem dk_Tr_readAll_56 : decode mi_Tr_readAll.2.1 56 = .ok (.putfield 32, 3) := by decide +kernel
theorem dk_Tr_readAll_59 : decode mi_Tr_readAll.2.1 59 = .ok (.aload_n 0, 1) := by decide +kernel
theorem dk_Tr_readAll_60 : decode mi_Tr_readAll.2.1 60 = .ok (.getfield 26, 3) := by decide +kernel
theorem dk_Tr_readAll_63 : decode mi_Tr_readAll.2.1 63 = .ok (.aload_n 0, 1) := by decide +kernel
theorem dk_Tr_readAll_64 : decode mi_Tr_readAll.2.1 64 = .ok (.getfield 22, 3) := by decide +kernel
theorem dk_Tr_readAll_67 : decode mi_Tr_readAll.2.1 67 = .ok (.if_icmp .lt 6, 3) := by decide +kernel
theorem dk_Tr_readAll_70 : decode mi_Tr_readAll.2.1 70 = .ok (.goto 15, 3) := by decide +kernel
theorem dk_Tr_readAll_73 : decode mi_Tr_readAll.2.1 73 = .ok (.aload_n 0, 1) := by decide +kernel
theorem dk_Tr_readAll_74 : decode mi_Tr_readAll.2.1 74 = .ok (.bipush 59, 2) := by decide +kernel
theorem dk_Tr_readAll_76 : decode mi_Tr_readAll.2.1 76 = .ok (.invokevirtual 49, 3) := by decide +kernel
theorem dk_Tr_readAll_79 : decode mi_Tr_readAll.2.1 79 = .ok (.iinc 3 1, 3) := by decide +kernel
theorem dk_Tr_readAll_82 : decode mi_Tr_readAll.2.1 82 = .ok (.goto (-52), 3) := by decide +kernel
theorem dk_Tr_readAll_85 : decode mi_Tr_readAll.2.1 85 = .ok (.aload_n 0, 1) := by decide +kernel
theorem dk_Tr_readAll_86 : decode mi_Tr_readAll.2.1 86 = .ok (.getfield 35, 3) := by decide +kernel
theorem dk_Tr_readAll_89 : decode mi_Tr_readAll.2.1 89 = .ok (.ireturn, 1) := by decide +kernel
def Tr_readAll_l30 (o1 : Nat) (o2 : Nat) (k_85 : nm_St → Option (Int32 × nm_St)) : Nat → Int32 → nm_St → Option (Int32 × nm_St)
  | 0, _, _ => none
  | n + 1, x3, σ =>
    (if (160 : Int32) < x3 then
      k_85 σ
    else
      (if (σ.1 42 6) = (-1 : Int32) then
        ((Tr_readItem σ).bind fun q8 =>
        (nm_let (nm_pI q8.2 42 5 ((q8.2.1 42 5) + (1 : Int32))) fun s9 =>
        (if (s9.1 42 3) < (s9.1 42 2) then
          ((Tr_readSign (59 : Int32) s9).bind fun q11 =>
          (Tr_readAll_l30 o1 o2 k_85 n) (x3 + (1 : Int32)) q11.2)
        else
          k_85 s9)))
      else
        k_85 σ))
set_option maxRecDepth 100000 in
set_option maxHeartbeats 4000000 in
theorem r_Tr_readAll_l30 (X : nm_X) (F : nm_F) (hF0 : 7 ≤ nm_d F) (o1 : Nat) (ho1 : nm_isH o1 = true) (o2 : Nat) (ho2 : nm_isl o2 = true) (k_85 : nm_St → Option (Int32 × nm_St)) (hk_85 : ∀ (σ : nm_St), Rn X mi_Tr_readAll F (nm_Qf X F nm_wI) [(0, .ref 42)] [] 85 σ (k_85 σ)) : ∀ (n : Nat) (x3 : Int32) (σ : nm_St), Rn X mi_Tr_readAll F (nm_Qf X F nm_wI) [(0, .ref 42), (3, .int x3)] [] 30 σ (Tr_readAll_l30 o1 o2 k_85 n x3 σ) := by
  intro n
  induction n with
  | zero =>
    intro x3 σ
    exact rn_none
  | succ n ih =>
    intro x3 σ
    unfold Tr_readAll_l30
    refine rn_iload_n (pc := 30) 3 dk_Tr_readAll_30 rfl rfl ?_
    refine rn_sipush (pc := 31) (160 : Int32) dk_Tr_readAll_31 cn_s_160 ?_
    refine rn_icmp_gt (pc := 34) 85 dk_Tr_readAll_34 (by decide) (fun c6 => ?_) (fun c6 => ?_)
    · exact rn_sub (by rfl) (hk_85 σ)
    · refine rn_aload_n (pc := 37) 0 dk_Tr_readAll_37 rfl rfl rfl ?_
      refine gf_Tr_35 (pc := 38) rfl dk_Tr_readAll_38 ?_
      refine rn_iconst (pc := 41) (-1 : Int32) dk_Tr_readAll_41 cn_i_m1 ?_
      refine rn_icmp_ne (pc := 42) 85 dk_Tr_readAll_42 (by decide) (fun c7 => ?_) (fun c7 => ?_)
      · exact rn_sub (by rfl) (hk_85 σ)
      · refine rn_aload_n (pc := 45) 0 dk_Tr_readAll_45 rfl rfl rfl ?_
        refine cl_Tr_46 (pc := 46) (As := []) (st := []) rfl (ct_Tr_readItem X σ) (Nat.le_trans (Nat.le_of_ble_eq_true rfl) hF0) rfl rfl (Nat.le_of_ble_eq_true rfl) dk_Tr_readAll_46 (fun q8 => ?_)
        refine rn_aload_n (pc := 49) 0 dk_Tr_readAll_49 rfl rfl rfl ?_
        refine rn_dup (pc := 50) dk_Tr_readAll_50 rfl ?_
        refine gf_Tr_32 (pc := 51) rfl dk_Tr_readAll_51 ?_
        refine rn_iconst (pc := 54) (1 : Int32) dk_Tr_readAll_54 cn_i_1 ?_
        refine rn_iadd (pc := 55) dk_Tr_readAll_55 ?_
        refine pf_Tr_32 (pc := 56) rfl dk_Tr_readAll_56 ?_
        refine rn_lets (fun s9 => ?_)
        refine rn_aload_n (pc := 59) 0 dk_Tr_readAll_59 rfl rfl rfl ?_
        refine gf_Tr_26 (pc := 60) rfl dk_Tr_readAll_60 ?_
        refine rn_aload_n (pc := 63) 0 dk_Tr_readAll_63 rfl rfl rfl ?_
        refine gf_Tr_22 (pc := 64) rfl dk_Tr_readAll_64 ?_
        refine rn_icmp_lt (pc := 67) 73 dk_Tr_readAll_67 (by decide) (fun c10 => ?_) (fun c10 => ?_)
        · refine rn_aload_n (pc := 73) 0 dk_Tr_readAll_73 rfl rfl rfl ?_
          refine rn_bipush (pc := 74) (59 : Int32) dk_Tr_readAll_74 cn_b_59 ?_
          refine cl_Tr_49 (pc := 76) (As := [.int (59 : Int32)]) (st := []) rfl (ct_Tr_readSign X (59 : Int32) s9) (Nat.le_trans (Nat.le_of_ble_eq_true rfl) hF0) rfl rfl (Nat.le_of_ble_eq_true rfl) dk_Tr_readAll_76 (fun q11 => ?_)
          refine rn_iinc (pc := 79) (1 : Int32) dk_Tr_readAll_79 cn_i_1 rfl rfl rfl ?_
          refine rn_goto (pc := 82) 30 dk_Tr_readAll_82 (by decide) ?_
          exact rn_sub (by rfl) (ih (x3 + (1 : Int32)) q11.2)
        · refine rn_goto (pc := 70) 85 dk_Tr_readAll_70 (by decide) ?_
          exact rn_sub (by rfl) (hk_85 s9)
def Tr_readAll (o1 : Nat) (o2 : Nat) (σ : nm_St) : Option (Int32 × nm_St) :=
  ((Is_become 43 o2 σ).bind fun q1 =>
  ((Tr_takeSigns o1 q1.2).bind fun q2 =>
  (nm_let (nm_pI q2.2 42 3 (0 : Int32)) fun s3 =>
  (nm_let (nm_pI s3 42 5 (0 : Int32)) fun s4 =>
  (nm_let (nm_pI s4 42 6 (-1 : Int32)) fun s5 =>
  Tr_readAll_l30 o1 o2 (fun (s12 : nm_St) =>
    some ((s12.1 42 6), s12)) 400 (0 : Int32) s5)))))
set_option maxRecDepth 100000 in
set_option maxHeartbeats 4000000 in
theorem ct_Tr_readAll (X : nm_X) (o1 : Nat) (ho1 : nm_isH o1 = true) (o2 : Nat) (ho2 : nm_isl o2 = true) (σ : nm_St) : Ct X mi_Tr_readAll 7 nm_wI [.ref 42, .ref o1, .ref o2] σ (Tr_readAll o1 o2 σ) := by
  refine Ct.of (by decide +kernel) rfl (fun F hF0 => ?_)
  unfold Tr_readAll
  refine rn_aload_n (pc := 0) 0 dk_Tr_readAll_0 rfl rfl rfl ?_
  refine gf_Tr_12 (pc := 1) rfl dk_Tr_readAll_1 ?_
  refine rn_aload_n (pc := 4) 2 dk_Tr_readAll_4 rfl rfl (nm_rok_isl ho2) ?_
  refine cl_Tr_38 (pc := 5) (As := [.ref o2]) (st := []) 43 rfl rfl (ct_Is_become X 43 rfl o2 ho2 σ) (Nat.le_trans (Nat.le_of_ble_eq_true rfl) hF0) rfl rfl (Nat.le_of_ble_eq_true rfl) dk_Tr_readAll_5 (fun q1 => ?_)
  refine rn_aload_n (pc := 8) 0 dk_Tr_readAll_8 rfl rfl rfl ?_
  refine rn_aload_n (pc := 9) 1 dk_Tr_readAll_9 rfl rfl (nm_rok_isH ho1) ?_
  refine cl_Tr_42 (pc := 10) (As := [.ref o1]) (st := []) rfl (ct_Tr_takeSigns X o1 ho1 q1.2) (Nat.le_trans (Nat.le_of_ble_eq_true rfl) hF0) rfl rfl (Nat.le_of_ble_eq_true rfl) dk_Tr_readAll_10 (fun q2 => ?_)
  refine rn_aload_n (pc := 13) 0 dk_Tr_readAll_13 rfl rfl rfl ?_
  refine rn_iconst (pc := 14) (0 : Int32) dk_Tr_readAll_14 cn_i_0 ?_
  refine pf_Tr_26 (pc := 15) rfl dk_Tr_readAll_15 ?_
  refine rn_lets (fun s3 => ?_)
  refine rn_aload_n (pc := 18) 0 dk_Tr_readAll_18 rfl rfl rfl ?_
  refine rn_iconst (pc := 19) (0 : Int32) dk_Tr_readAll_19 cn_i_0 ?_
  refine pf_Tr_32 (pc := 20) rfl dk_Tr_readAll_20 ?_
  refine rn_lets (fun s4 => ?_)
  refine rn_aload_n (pc := 23) 0 dk_Tr_readAll_23 rfl rfl rfl ?_
  refine rn_iconst (pc := 24) (-1 : Int32) dk_Tr_readAll_24 cn_i_m1 ?_
  refine pf_Tr_35 (pc := 25) rfl dk_Tr_readAll_25 ?_
  refine rn_lets (fun s5 => ?_)
  refine rn_iconst (pc := 28) (0 : Int32) dk_Tr_readAll_28 cn_i_0 ?_
  refine rn_istore_n (pc := 29) 3 dk_Tr_readAll_29 rfl rfl rfl ?_
  refine rn_sub (by rfl) (r_Tr_readAll_l30 X F hF0 o1 ho1 o2 ho2 _ (fun s12 => ?_) 400 (0 : Int32) s5)
  refine rn_aload_n (pc := 85) 0 dk_Tr_readAll_85 rfl rfl rfl ?_
  refine gf_Tr_35 (pc := 86) rfl dk_Tr_readAll_86 ?_
  exact rn_iret rfl dk_Tr_readAll_89
theorem dk_Nm_island_0 : decode mi_Nm_island.2.1 0 = .ok (.aload_n 0, 1) := by decide +kernel
theorem dk_Nm_island_1 : decode mi_Nm_island.2.1 1 = .ok (.iload_n 1, 1) := by decide +kernel
theorem dk_Nm_island_2 : decode mi_Nm_island.2.1 2 = .ok (.invokevirtual 81, 3) := by decide +kernel
theorem dk_Nm_island_5 : decode mi_Nm_island.2.1 5 = .ok (.istore_n 2, 1) := by decide +kernel
theorem dk_Nm_island_6 : decode mi_Nm_island.2.1 6 = .ok (.iload_n 2, 1) := by decide +kernel
theorem dk_Nm_island_7 : decode mi_Nm_island.2.1 7 = .ok (.ifCond .eq 9, 3) := by decide +kernel
theorem dk_Nm_island_10 : decode mi_Nm_island.2.1 10 = .ok (.aload_n 0, 1) := by decide +kernel
theorem dk_Nm_island_11 : decode mi_Nm_island.2.1 11 = .ok (.iload_n 2, 1) := by decide +kernel
theorem dk_Nm_island_12 : decode mi_Nm_island.2.1 12 = .ok (.invokevirtual 73, 3) := by decide +kernel
theorem dk_Nm_island_15 : decode mi_Nm_island.2.1 15 = .ok (.ireturn, 1) := by decide +kernel
theorem dk_Nm_island_16 : decode mi_Nm_island.2.1 16 = .ok (.aload_n 0, 1) := by decide +kernel
theorem dk_Nm_island_17 : decode mi_Nm_island.2.1 17 = .ok (.aload_n 0, 1) := by decide +kernel
theorem dk_Nm_island_18 : decode mi_Nm_island.2.1 18 = .ok (.getfield 45, 3) := by decide +kernel
theorem dk_Nm_island_21 : decode mi_Nm_island.2.1 21 = .ok (.aload_n 0, 1) := by decide +kernel
theorem dk_Nm_island_22 : decode mi_Nm_island.2.1 22 = .ok (.getfield 11, 3) := by decide +kernel
theorem dk_Nm_island_25 : decode mi_Nm_island.2.1 25 = .ok (.iload_n 1, 1) := by decide +kernel
theorem dk_Nm_island_26 : decode mi_Nm_island.2.1 26 = .ok (.aaload, 1) := by decide +kernel
theorem dk_Nm_island_27 : decode mi_Nm_island.2.1 27 = .ok (.aload_n 0, 1) := by decide +kernel
theorem dk_Nm_island_28 : decode mi_Nm_island.2.1 28 = .ok (.getfield 18, 3) := by decide +kernel
theorem dk_Nm_island_31 : decode mi_Nm_island.2.1 31 = .ok (.invokevirtual 177, 3) := by decide +kernel
theorem dk_Nm_island_34 : decode mi_Nm_island.2.1 34 = .ok (.putfield 64, 3) := by decide +kernel
theorem dk_Nm_island_37 : decode mi_Nm_island.2.1 37 = .ok (.aload_n 0, 1) := by decide +kernel
theorem dk_Nm_island_38 : decode mi_Nm_island.2.1 38 = .ok (.getfield 64, 3) := by decide +kernel
theorem dk_Nm_island_41 : decode mi_Nm_island.2.1 41 = .ok (.iconst (-1), 1) := by decide +kernel
theorem dk_Nm_island_42 : decode mi_Nm_island.2.1 42 = .ok (.if_icmp .eq 10, 3) := by decide +kernel
theorem dk_Nm_island_45 : decode mi_Nm_island.2.1 45 = .ok (.aload_n 0, 1) := by decide +kernel
theorem dk_Nm_island_46 : decode mi_Nm_island.2.1 46 = .ok (.bipush (-6), 2) := by decide +kernel
theorem dk_Nm_island_48 : decode mi_Nm_island.2.1 48 = .ok (.invokevirtual 73, 3) := by decide +kernel
theorem dk_Nm_island_51 : decode mi_Nm_island.2.1 51 = .ok (.ireturn, 1) := by decide +kernel
theorem dk_Nm_island_52 : decode mi_Nm_island.2.1 52 = .ok (.aload_n 0, 1) := by decide +kernel
theorem dk_Nm_island_53 : decode mi_Nm_island.2.1 53 = .ok (.getfield 18, 3) := by decide +kernel
theorem dk_Nm_island_56 : decode mi_Nm_island.2.1 56 = .ok (.aload_n 0, 1) := by decide +kernel
theorem dk_Nm_island_57 : decode mi_Nm_island.2.1 57 = .ok (.getfield 45, 3) := by decide +kernel
theorem dk_Nm_island_60 : decode mi_Nm_island.2.1 60 = .ok (.getfield 181, 3) := by decide +kernel
theorem dk_Nm_island_63 : decode mi_Nm_island.2.1 63 = .ok (.invokevirtual 183, 3) := by decide +kernel
theorem dk_Nm_island_66 : decode mi_Nm_island.2.1 66 = .ok (.aload_n 0, 1) := by decide +kernel
theorem dk_Nm_island_67 : decode mi_Nm_island.2.1 67 = .ok (.getfield 45, 3) := by decide +kernel
theorem dk_Nm_island_70 : decode mi_Nm_island.2.1 70 = .ok (.getfield 187, 3) := by decide +kernel
theorem dk_Nm_island_73 : decode mi_Nm_island.2.1 73 = .ok (.ireturn, 1) := by decide +kernel
def Nm_island (p1 : Int32) (σ : nm_St) : Option (Int32 × nm_St) :=
  ((Nm_checkRow p1 σ).bind fun q1 =>
  (if q1.1 = 0 then
    (nm_g (nm_in p1 8) (
    ((Tr_readAll (nm_sf p1) 2 q1.2).bind fun q4 =>
    (nm_let (nm_pI q4.2 0 10 q4.1) fun s5 =>
    (if (s5.1 0 10) = (-1 : Int32) then
      ((Is_become 2 43 s5).bind fun q7 =>
      some ((q7.2.1 42 5), q7.2))
    else
      ((Nm_refuse (-6 : Int32) s5).bind fun q8 =>
      some (q8.1, q8.2)))))))
  else
    ((Nm_refuse q1.1 q1.2).bind fun q9 =>
    some (q9.1, q9.2))))
set_option maxRecDepth 100000 in
set_option maxHeartbeats 4000000 in
theorem ct_Nm_island (X : nm_X) (p1 : Int32) (σ : nm_St) : Ct X mi_Nm_island 8 nm_wI [.ref 0, .int p1] σ (Nm_island p1 σ) := by
  refine Ct.of (by decide +kernel) rfl (fun F hF0 => ?_)
  unfold Nm_island
  refine rn_aload_n (pc := 0) 0 dk_Nm_island_0 rfl rfl rfl ?_
  refine rn_iload_n (pc := 1) 1 dk_Nm_island_1 rfl rfl ?_
  refine cl_Nm_81 (pc := 2) (As := [.int p1]) (st := []) rfl (ct_Nm_checkRow X p1 σ) (Nat.le_trans (Nat.le_of_ble_eq_true rfl) hF0) rfl rfl (Nat.le_of_ble_eq_true rfl) dk_Nm_island_2 (fun q1 => ?_)
  refine rn_istore_n (pc := 5) 2 dk_Nm_island_5 rfl rfl rfl ?_
  refine rn_iload_n (pc := 6) 2 dk_Nm_island_6 rfl rfl ?_
  refine rn_if_eq (pc := 7) 16 dk_Nm_island_7 (by decide) (fun c2 => ?_) (fun c2 => ?_)
  · refine rn_aload_n (pc := 16) 0 dk_Nm_island_16 rfl rfl rfl ?_
    refine rn_aload_n (pc := 17) 0 dk_Nm_island_17 rfl rfl rfl ?_
    refine gf_Nm_45 (pc := 18) rfl dk_Nm_island_18 ?_
    refine rn_aload_n (pc := 21) 0 dk_Nm_island_21 rfl rfl rfl ?_
    refine gf_Nm_11 (pc := 22) rfl dk_Nm_island_22 ?_
    refine rn_iload_n (pc := 25) 1 dk_Nm_island_25 rfl rfl ?_
    refine rn_aaload (pc := 26) dk_Nm_island_26 (fun g3 => ?_)
    refine rn_aload_n (pc := 27) 0 dk_Nm_island_27 rfl rfl rfl ?_
    refine gf_Nm_18 (pc := 28) rfl dk_Nm_island_28 ?_
    refine cl_Nm_177 (pc := 31) (As := [.ref (nm_sf p1), .ref 2]) (st := [.ref 0]) rfl (ct_Tr_readAll X (nm_sf p1) (nm_sf_isH g3) 2 rfl q1.2) (Nat.le_trans (Nat.le_of_ble_eq_true rfl) hF0) rfl rfl (Nat.le_of_ble_eq_true rfl) dk_Nm_island_31 (fun q4 => ?_)
    refine pf_Nm_64 (pc := 34) rfl dk_Nm_island_34 ?_
    refine rn_lets (fun s5 => ?_)
    refine rn_aload_n (pc := 37) 0 dk_Nm_island_37 rfl rfl rfl ?_
    refine gf_Nm_64 (pc := 38) rfl dk_Nm_island_38 ?_
    refine rn_iconst (pc := 41) (-1 : Int32) dk_Nm_island_41 cn_i_m1 ?_
    refine rn_icmp_eq (pc := 42) 52 dk_Nm_island_42 (by decide) (fun c6 => ?_) (fun c6 => ?_)
    · refine rn_aload_n (pc := 52) 0 dk_Nm_island_52 rfl rfl rfl ?_
      refine gf_Nm_18 (pc := 53) rfl dk_Nm_island_53 ?_
      refine rn_aload_n (pc := 56) 0 dk_Nm_island_56 rfl rfl rfl ?_
      refine gf_Nm_45 (pc := 57) rfl dk_Nm_island_57 ?_
      refine gf_Nm_181 (pc := 60) rfl dk_Nm_island_60 ?_
      refine cl_Nm_183 (pc := 63) (As := [.ref 43]) (st := []) 2 rfl rfl (ct_Is_become X 2 rfl 43 rfl s5) (Nat.le_trans (Nat.le_of_ble_eq_true rfl) hF0) rfl rfl (Nat.le_of_ble_eq_true rfl) dk_Nm_island_63 (fun q7 => ?_)
      refine rn_aload_n (pc := 66) 0 dk_Nm_island_66 rfl rfl rfl ?_
      refine gf_Nm_45 (pc := 67) rfl dk_Nm_island_67 ?_
      refine gf_Nm_187 (pc := 70) rfl dk_Nm_island_70 ?_
      exact rn_iret rfl dk_Nm_island_73
    · refine rn_aload_n (pc := 45) 0 dk_Nm_island_45 rfl rfl rfl ?_
      refine rn_bipush (pc := 46) (-6 : Int32) dk_Nm_island_46 cn_b_m6 ?_
      refine cl_Nm_73 (pc := 48) (As := [.int (-6 : Int32)]) (st := []) rfl (ct_Nm_refuse X (-6 : Int32) s5) (Nat.le_trans (Nat.le_of_ble_eq_true rfl) hF0) rfl rfl (Nat.le_of_ble_eq_true rfl) dk_Nm_island_48 (fun q8 => ?_)
      exact rn_iret rfl dk_Nm_island_51
  · refine rn_aload_n (pc := 10) 0 dk_Nm_island_10 rfl rfl rfl ?_
    refine rn_iload_n (pc := 11) 2 dk_Nm_island_11 rfl rfl ?_
    refine cl_Nm_73 (pc := 12) (As := [.int q1.1]) (st := []) rfl (ct_Nm_refuse X q1.1 q1.2) (Nat.le_trans (Nat.le_of_ble_eq_true rfl) hF0) rfl rfl (Nat.le_of_ble_eq_true rfl) dk_Nm_island_12 (fun q9 => ?_)
    exact rn_iret rfl dk_Nm_island_15
theorem dk_Nm_fault_0 : decode mi_Nm_fault.2.1 0 = .ok (.aload_n 0, 1) := by decide +kernel
theorem dk_Nm_fault_1 : decode mi_Nm_fault.2.1 1 = .ok (.getfield 64, 3) := by decide +kernel
theorem dk_Nm_fault_4 : decode mi_Nm_fault.2.1 4 = .ok (.ireturn, 1) := by decide +kernel
def Nm_fault (σ : nm_St) : Option (Int32 × nm_St) :=
  some ((σ.1 0 10), σ)
set_option maxRecDepth 100000 in
set_option maxHeartbeats 4000000 in
theorem ct_Nm_fault (X : nm_X) (σ : nm_St) : Ct X mi_Nm_fault 0 nm_wI [.ref 0] σ (Nm_fault σ) := by
  refine Ct.of (by decide +kernel) rfl (fun F hF0 => ?_)
  unfold Nm_fault
  refine rn_aload_n (pc := 0) 0 dk_Nm_fault_0 rfl rfl rfl ?_
  refine gf_Nm_64 (pc := 1) rfl dk_Nm_fault_1 ?_
  exact rn_iret rfl dk_Nm_fault_4
theorem dk_Is_allParts_0 : decode mi_Is_allParts.2.1 0 = .ok (.iconst 1, 1) := by decide +kernel
theorem dk_Is_allParts_1 : decode mi_Is_allParts.2.1 1 = .ok (.aload_n 0, 1) := by decide +kernel
theorem dk_Is_allParts_2 : decode mi_Is_allParts.2.1 2 = .ok (.getfield 34, 3) := by decide +kernel
theorem dk_Is_allParts_5 : decode mi_Is_allParts.2.1 5 = .ok (.ishl, 1) := by decide +kernel
theorem dk_Is_allParts_6 : decode mi_Is_allParts.2.1 6 = .ok (.iconst 1, 1) := by decide +kernel
theorem dk_Is_allParts_7 : decode mi_Is_allParts.2.1 7 = .ok (.isub, 1) := by decide +kernel
theorem dk_Is_allParts_8 : decode mi_Is_allParts.2.1 8 = .ok (.ireturn, 1) := by decide +kernel
def Is_allParts (o : Nat) (σ : nm_St) : Option (Int32 × nm_St) :=
  some ((((1 : Int32) <<< ((σ.1 o 7) &&& 31)) - (1 : Int32)), σ)
set_option maxRecDepth 100000 in
set_option maxHeartbeats 4000000 in
theorem ct_Is_allParts (X : nm_X) (o : Nat) (ho : nm_isl o = true) (σ : nm_St) : Ct X mi_Is_allParts 0 nm_wI [.ref o] σ (Is_allParts o σ) := by
  refine Ct.of (by decide +kernel) rfl (fun F hF0 => ?_)
  unfold Is_allParts
  refine rn_iconst (pc := 0) (1 : Int32) dk_Is_allParts_0 cn_i_1 ?_
  refine rn_aload_n (pc := 1) 0 dk_Is_allParts_1 rfl rfl (nm_rok_isl ho) ?_
  refine gf_Is_34 (pc := 2) o ho rfl dk_Is_allParts_2 ?_
  refine rn_ishl (pc := 5) dk_Is_allParts_5 ?_
  refine rn_iconst (pc := 6) (1 : Int32) dk_Is_allParts_6 cn_i_1 ?_
  refine rn_isub (pc := 7) dk_Is_allParts_7 ?_
  exact rn_iret rfl dk_Is_allParts_8
theorem dk_Is_knownAbroad_0 : decode mi_Is_knownAbroad.2.1 0 = .ok (.iconst 0, 1) := by decide +kernel
theorem dk_Is_knownAbroad_1 : decode mi_Is_knownAbroad.2.1 1 = .ok (.istore_n 1, 1) := by decide +kernel
theorem dk_Is_knownAbroad_2 : decode mi_Is_knownAbroad.2.1 2 = .ok (.iconst 0, 1) := by decide +kernel
theorem dk_Is_knownAbroad_3 : decode mi_Is_knownAbroad.2.1 3 = .ok (.istore_n 2, 1) := by decide +kernel
theorem dk_Is_knownAbroad_4 : decode mi_Is_knownAbroad.2.1 4 = .ok (.iload_n 2, 1) := by decide +kernel
theorem dk_Is_knownAbroad_5 : decode mi_Is_knownAbroad.2.1 5 = .ok (.bipush 8, 2) := by decide +kernel
theorem dk_Is_knownAbroad_7 : decode mi_Is_knownAbroad.2.1 7 = .ok (.if_icmp .ge 27, 3) := by decide +kernel
theorem dk_Is_knownAbroad_10 : decode mi_Is_knownAbroad.2.1 10 = .ok (.aload_n 0, 1) := by decide +kernel
theorem dk_Is_knownAbroad_11 : decode mi_Is_knownAbroad.2.1 11 = .ok (.iload_n 2, 1) := by decide +kernel
theorem dk_Is_knownAbroad_12 : decode mi_Is_knownAbroad.2.1 12 = .ok (.iconst 1, 1) := by decide +kernel
theorem dk_Is_knownAbroad_13 : decode mi_Is_knownAbroad.2.1 13 = .ok (.invokevirtual 77, 3) := by decide +kernel
theorem dk_Is_knownAbroad_16 : decode mi_Is_knownAbroad.2.1 16 = .ok (.ifCond .eq 12, 3) := by decide +kernel
theorem dk_Is_knownAbroad_19 : decode mi_Is_knownAbroad.2.1 19 = .ok (.iload_n 1, 1) := by decide +kernel
theorem dk_Is_knownAbroad_20 : decode mi_Is_knownAbroad.2.1 20 = .ok (.aload_n 0, 1) := by decide +kernel
theorem dk_Is_knownAbroad_21 : decode mi_Is_knownAbroad.2.1 21 = .ok (.getfield 21, 3) := by decide +kernel
theorem dk_Is_knownAbroad_24 : decode mi_Is_knownAbroad.2.1 24 = .ok (.iload_n 2, 1) := by decide +kernel
theorem dk_Is_knownAbroad_25 : decode mi_Is_knownAbroad.2.1 25 = .ok (.iaload, 1) := by decide +kernel
theorem dk_Is_knownAbroad_26 : decode mi_Is_knownAbroad.2.1 26 = .ok (.ior, 1) := by decide +kernel
theorem dk_Is_knownAbroad_27 : decode mi_Is_knownAbroad.2.1 27 = .ok (.istore_n 1, 1) := by decide +kernel
theorem dk_Is_knownAbroad_28 : decode mi_Is_knownAbroad.2.1 28 = .ok (.iinc 2 1, 3) := by decide +kernel
theorem dk_Is_knownAbroad_31 : decode mi_Is_knownAbroad.2.1 31 = .ok (.goto (-27), 3) := by decide +kernel
theorem dk_Is_knownAbroad_34 : decode mi_Is_knownAbroad.2.1 34 = .ok (.iload_n 1, 1) := by decide +kernel
theorem dk_Is_knownAbroad_35 : decode mi_Is_knownAbroad.2.1 35 = .ok (.ireturn, 1) := by decide +kernel
def Is_knownAbroad_l4 (o : Nat) (k_34 : Int32 → nm_St → Option (Int32 × nm_St)) : Nat → Int32 → Int32 → nm_St → Option (Int32 × nm_St)
  | 0, _, _, _ => none
  | n + 1, x1, x2, σ =>
    (if (8 : Int32) ≤ x2 then
      k_34 x1 σ
    else
      ((Is_isAt o x2 (1 : Int32) σ).bind fun q2 =>
      (if q2.1 = 0 then
        (Is_knownAbroad_l4 o k_34 n) x1 (x2 + (1 : Int32)) q2.2
      else
        (nm_g (nm_in x2 8) (
        (nm_let ((x1 ||| (q2.2.1 (o + 4) x2.toNatClampNeg))) fun v5 =>
        (Is_knownAbroad_l4 o k_34 n) v5 (x2 + (1 : Int32)) q2.2))))))
set_option maxRecDepth 100000 in
set_option maxHeartbeats 4000000 in
theorem r_Is_knownAbroad_l4 (X : nm_X) (F : nm_F) (hF0 : 1 ≤ nm_d F) (o : Nat) (ho : nm_isl o = true) (k_34 : Int32 → nm_St → Option (Int32 × nm_St)) (hk_34 : ∀ (x1 : Int32) (σ : nm_St), Rn X mi_Is_knownAbroad F (nm_Qf X F nm_wI) [(1, .int x1)] [] 34 σ (k_34 x1 σ)) : ∀ (n : Nat) (x1 : Int32) (x2 : Int32) (σ : nm_St), Rn X mi_Is_knownAbroad F (nm_Qf X F nm_wI) [(0, .ref o), (1, .int x1), (2, .int x2)] [] 4 σ (Is_knownAbroad_l4 o k_34 n x1 x2 σ) := by
  intro n
  induction n with
  | zero =>
    intro x1 x2 σ
    exact rn_none
  | succ n ih =>
    intro x1 x2 σ
    unfold Is_knownAbroad_l4
    refine rn_iload_n (pc := 4) 2 dk_Is_knownAbroad_4 rfl rfl ?_
    refine rn_bipush (pc := 5) (8 : Int32) dk_Is_knownAbroad_5 cn_b_8 ?_
    refine rn_icmp_ge (pc := 7) 34 dk_Is_knownAbroad_7 (by decide) (fun c1 => ?_) (fun c1 => ?_)
    · exact rn_sub (by rfl) (hk_34 x1 σ)
    · refine rn_aload_n (pc := 10) 0 dk_Is_knownAbroad_10 rfl rfl (nm_rok_isl ho) ?_
      refine rn_iload_n (pc := 11) 2 dk_Is_knownAbroad_11 rfl rfl ?_
      refine rn_iconst (pc := 12) (1 : Int32) dk_Is_knownAbroad_12 cn_i_1 ?_
      refine cl_Is_77 (pc := 13) (As := [.int x2, .int (1 : Int32)]) (st := []) o ho rfl (ct_Is_isAt X o ho x2 (1 : Int32) σ) (Nat.le_trans (Nat.le_of_ble_eq_true rfl) hF0) rfl rfl (Nat.le_of_ble_eq_true rfl) dk_Is_knownAbroad_13 (fun q2 => ?_)
      refine rn_if_eq (pc := 16) 28 dk_Is_knownAbroad_16 (by decide) (fun c3 => ?_) (fun c3 => ?_)
      · refine rn_iinc (pc := 28) (1 : Int32) dk_Is_knownAbroad_28 cn_i_1 rfl rfl rfl ?_
        refine rn_goto (pc := 31) 4 dk_Is_knownAbroad_31 (by decide) ?_
        exact rn_sub (by rfl) (ih x1 (x2 + (1 : Int32)) q2.2)
      · refine rn_iload_n (pc := 19) 1 dk_Is_knownAbroad_19 rfl rfl ?_
        refine rn_aload_n (pc := 20) 0 dk_Is_knownAbroad_20 rfl rfl (nm_rok_isl ho) ?_
        refine gf_Is_21 (pc := 21) o ho rfl dk_Is_knownAbroad_21 ?_
        refine rn_iload_n (pc := 24) 2 dk_Is_knownAbroad_24 rfl rfl ?_
        refine rn_iaload (pc := 25) (nm_i4 ho) dk_Is_knownAbroad_25 (fun g4 => ?_)
        refine rn_ior (pc := 26) dk_Is_knownAbroad_26 ?_
        refine rn_leti (fun v5 => ?_)
        refine rn_istore_n (pc := 27) 1 dk_Is_knownAbroad_27 rfl rfl rfl ?_
        refine rn_iinc (pc := 28) (1 : Int32) dk_Is_knownAbroad_28 cn_i_1 rfl rfl rfl ?_
        refine rn_goto (pc := 31) 4 dk_Is_knownAbroad_31 (by decide) ?_
        exact rn_sub (by rfl) (ih v5 (x2 + (1 : Int32)) q2.2)
def Is_knownAbroad (o : Nat) (σ : nm_St) : Option (Int32 × nm_St) :=
  Is_knownAbroad_l4 o (fun (e7 : Int32) (s6 : nm_St) =>
    some (e7, s6)) 400 (0 : Int32) (0 : Int32) σ
set_option maxRecDepth 100000 in
set_option maxHeartbeats 4000000 in
theorem ct_Is_knownAbroad (X : nm_X) (o : Nat) (ho : nm_isl o = true) (σ : nm_St) : Ct X mi_Is_knownAbroad 1 nm_wI [.ref o] σ (Is_knownAbroad o σ) := by
  refine Ct.of (by decide +kernel) rfl (fun F hF0 => ?_)
  unfold Is_knownAbroad
  refine rn_iconst (pc := 0) (0 : Int32) dk_Is_knownAbroad_0 cn_i_0 ?_
  refine rn_istore_n (pc := 1) 1 dk_Is_knownAbroad_1 rfl rfl rfl ?_
  refine rn_iconst (pc := 2) (0 : Int32) dk_Is_knownAbroad_2 cn_i_0 ?_
  refine rn_istore_n (pc := 3) 2 dk_Is_knownAbroad_3 rfl rfl rfl ?_
  refine rn_sub (by rfl) (r_Is_knownAbroad_l4 X F hF0 o ho _ (fun e7 s6 => ?_) 400 (0 : Int32) (0 : Int32) σ)
  refine rn_iload_n (pc := 34) 1 dk_Is_knownAbroad_34 rfl rfl ?_
  exact rn_iret rfl dk_Is_knownAbroad_35
theorem dk_Is_isMadeAbroad_0 : decode mi_Is_isMadeAbroad.2.1 0 = .ok (.aload_n 0, 1) := by decide +kernel
theorem dk_Is_isMadeAbroad_1 : decode mi_Is_isMadeAbroad.2.1 1 = .ok (.invokevirtual 86, 3) := by decide +kernel
theorem dk_Is_isMadeAbroad_4 : decode mi_Is_isMadeAbroad.2.1 4 = .ok (.aload_n 0, 1) := by decide +kernel
theorem dk_Is_isMadeAbroad_5 : decode mi_Is_isMadeAbroad.2.1 5 = .ok (.invokevirtual 55, 3) := by decide +kernel
theorem dk_Is_isMadeAbroad_8 : decode mi_Is_isMadeAbroad.2.1 8 = .ok (.if_icmp .ne 7, 3) := by decide +kernel
theorem dk_Is_isMadeAbroad_11 : decode mi_Is_isMadeAbroad.2.1 11 = .ok (.iconst 1, 1) := by decide +kernel
theorem dk_Is_isMadeAbroad_12 : decode mi_Is_isMadeAbroad.2.1 12 = .ok (.goto 4, 3) := by decide +kernel
theorem dk_Is_isMadeAbroad_15 : decode mi_Is_isMadeAbroad.2.1 15 = .ok (.iconst 0, 1) := by decide +kernel
theorem dk_Is_isMadeAbroad_16 : decode mi_Is_isMadeAbroad.2.1 16 = .ok (.ireturn, 1) := by decide +kernel
def Is_isMadeAbroad (o : Nat) (σ : nm_St) : Option (Int32 × nm_St) :=
  ((Is_knownAbroad o σ).bind fun q1 =>
  ((Is_allParts o q1.2).bind fun q2 =>
  (if q1.1 = q2.1 then
    some ((1 : Int32), q2.2)
  else
    some ((0 : Int32), q2.2))))
set_option maxRecDepth 100000 in
set_option maxHeartbeats 4000000 in
theorem ct_Is_isMadeAbroad (X : nm_X) (o : Nat) (ho : nm_isl o = true) (σ : nm_St) : Ct X mi_Is_isMadeAbroad 2 nm_wI [.ref o] σ (Is_isMadeAbroad o σ) := by
  refine Ct.of (by decide +kernel) rfl (fun F hF0 => ?_)
  unfold Is_isMadeAbroad
  refine rn_aload_n (pc := 0) 0 dk_Is_isMadeAbroad_0 rfl rfl (nm_rok_isl ho) ?_
  refine cl_Is_86 (pc := 1) (As := []) (st := []) o ho rfl (ct_Is_knownAbroad X o ho σ) (Nat.le_trans (Nat.le_of_ble_eq_true rfl) hF0) rfl rfl (Nat.le_of_ble_eq_true rfl) dk_Is_isMadeAbroad_1 (fun q1 => ?_)
  refine rn_aload_n (pc := 4) 0 dk_Is_isMadeAbroad_4 rfl rfl (nm_rok_isl ho) ?_
  refine cl_Is_55 (pc := 5) (As := []) (st := [.int q1.1]) o ho rfl (ct_Is_allParts X o ho q1.2) (Nat.le_trans (Nat.le_of_ble_eq_true rfl) hF0) rfl rfl (Nat.le_of_ble_eq_true rfl) dk_Is_isMadeAbroad_5 (fun q2 => ?_)
  refine rn_icmp_ne (pc := 8) 15 dk_Is_isMadeAbroad_8 (by decide) (fun c3 => ?_) (fun c3 => ?_)
  · refine rn_iconst (pc := 15) (0 : Int32) dk_Is_isMadeAbroad_15 cn_i_0 ?_
    exact rn_zret (ty := .boolean) rfl rfl dk_Is_isMadeAbroad_16
  · refine rn_iconst (pc := 11) (1 : Int32) dk_Is_isMadeAbroad_11 cn_i_1 ?_
    refine rn_goto (pc := 12) 16 dk_Is_isMadeAbroad_12 (by decide) ?_
    exact rn_zret (ty := .boolean) rfl rfl dk_Is_isMadeAbroad_16
theorem dk_Nm_abroad_0 : decode mi_Nm_abroad.2.1 0 = .ok (.iload_n 1, 1) := by decide +kernel
theorem dk_Nm_abroad_1 : decode mi_Nm_abroad.2.1 1 = .ok (.ifCond .ne 19, 3) := by decide +kernel
theorem dk_Nm_abroad_4 : decode mi_Nm_abroad.2.1 4 = .ok (.aload_n 0, 1) := by decide +kernel
theorem dk_Nm_abroad_5 : decode mi_Nm_abroad.2.1 5 = .ok (.getfield 18, 3) := by decide +kernel
theorem dk_Nm_abroad_8 : decode mi_Nm_abroad.2.1 8 = .ok (.invokevirtual 190, 3) := by decide +kernel
theorem dk_Nm_abroad_11 : decode mi_Nm_abroad.2.1 11 = .ok (.ifCond .eq 7, 3) := by decide +kernel
theorem dk_Nm_abroad_14 : decode mi_Nm_abroad.2.1 14 = .ok (.iconst 1, 1) := by decide +kernel
theorem dk_Nm_abroad_15 : decode mi_Nm_abroad.2.1 15 = .ok (.goto 4, 3) := by decide +kernel
theorem dk_Nm_abroad_18 : decode mi_Nm_abroad.2.1 18 = .ok (.iconst 0, 1) := by decide +kernel
theorem dk_Nm_abroad_19 : decode mi_Nm_abroad.2.1 19 = .ok (.ireturn, 1) := by decide +kernel
theorem dk_Nm_abroad_20 : decode mi_Nm_abroad.2.1 20 = .ok (.iload_n 1, 1) := by decide +kernel
theorem dk_Nm_abroad_21 : decode mi_Nm_abroad.2.1 21 = .ok (.iconst 1, 1) := by decide +kernel
theorem dk_Nm_abroad_22 : decode mi_Nm_abroad.2.1 22 = .ok (.if_icmp .ne 21, 3) := by decide +kernel
theorem dk_Nm_abroad_25 : decode mi_Nm_abroad.2.1 25 = .ok (.aload_n 0, 1) := by decide +kernel
theorem dk_Nm_abroad_26 : decode mi_Nm_abroad.2.1 26 = .ok (.getfield 18, 3) := by decide +kernel
theorem dk_Nm_abroad_29 : decode mi_Nm_abroad.2.1 29 = .ok (.invokevirtual 193, 3) := by decide +kernel
theorem dk_Nm_abroad_32 : decode mi_Nm_abroad.2.1 32 = .ok (.aload_n 0, 1) := by decide +kernel
theorem dk_Nm_abroad_33 : decode mi_Nm_abroad.2.1 33 = .ok (.getfield 18, 3) := by decide +kernel
theorem dk_Nm_abroad_36 : decode mi_Nm_abroad.2.1 36 = .ok (.invokevirtual 196, 3) := by decide +kernel
theorem dk_Nm_abroad_39 : decode mi_Nm_abroad.2.1 39 = .ok (.iconst (-1), 1) := by decide +kernel
theorem dk_Nm_abroad_40 : decode mi_Nm_abroad.2.1 40 = .ok (.ixor, 1) := by decide +kernel
theorem dk_Nm_abroad_41 : decode mi_Nm_abroad.2.1 41 = .ok (.iand, 1) := by decide +kernel
theorem dk_Nm_abroad_42 : decode mi_Nm_abroad.2.1 42 = .ok (.ireturn, 1) := by decide +kernel
theorem dk_Nm_abroad_43 : decode mi_Nm_abroad.2.1 43 = .ok (.aload_n 0, 1) := by decide +kernel
theorem dk_Nm_abroad_44 : decode mi_Nm_abroad.2.1 44 = .ok (.bipush (-5), 2) := by decide +kernel
theorem dk_Nm_abroad_46 : decode mi_Nm_abroad.2.1 46 = .ok (.invokevirtual 73, 3) := by decide +kernel
theorem dk_Nm_abroad_49 : decode mi_Nm_abroad.2.1 49 = .ok (.ireturn, 1) := by decide +kernel
def Nm_abroad (p1 : Int32) (σ : nm_St) : Option (Int32 × nm_St) :=
  (if p1 = 0 then
    ((Is_isMadeAbroad 2 σ).bind fun q6 =>
    (if q6.1 = 0 then
      some ((0 : Int32), q6.2)
    else
      some ((1 : Int32), q6.2)))
  else
    (if p1 = (1 : Int32) then
      ((Is_allParts 2 σ).bind fun q4 =>
      ((Is_knownAbroad 2 q4.2).bind fun q5 =>
      some ((q4.1 &&& (q5.1 ^^^ (-1 : Int32))), q5.2)))
    else
      ((Nm_refuse (-5 : Int32) σ).bind fun q3 =>
      some (q3.1, q3.2))))
set_option maxRecDepth 100000 in
set_option maxHeartbeats 4000000 in
theorem ct_Nm_abroad (X : nm_X) (p1 : Int32) (σ : nm_St) : Ct X mi_Nm_abroad 3 nm_wI [.ref 0, .int p1] σ (Nm_abroad p1 σ) := by
  refine Ct.of (by decide +kernel) rfl (fun F hF0 => ?_)
  unfold Nm_abroad
  refine rn_iload_n (pc := 0) 1 dk_Nm_abroad_0 rfl rfl ?_
  refine rn_if_ne (pc := 1) 20 dk_Nm_abroad_1 (by decide) (fun c1 => ?_) (fun c1 => ?_)
  · refine rn_iload_n (pc := 20) 1 dk_Nm_abroad_20 rfl rfl ?_
    refine rn_iconst (pc := 21) (1 : Int32) dk_Nm_abroad_21 cn_i_1 ?_
    refine rn_icmp_ne (pc := 22) 43 dk_Nm_abroad_22 (by decide) (fun c2 => ?_) (fun c2 => ?_)
    · refine rn_aload_n (pc := 43) 0 dk_Nm_abroad_43 rfl rfl rfl ?_
      refine rn_bipush (pc := 44) (-5 : Int32) dk_Nm_abroad_44 cn_b_m5 ?_
      refine cl_Nm_73 (pc := 46) (As := [.int (-5 : Int32)]) (st := []) rfl (ct_Nm_refuse X (-5 : Int32) σ) (Nat.le_trans (Nat.le_of_ble_eq_true rfl) hF0) rfl rfl (Nat.le_of_ble_eq_true rfl) dk_Nm_abroad_46 (fun q3 => ?_)
      exact rn_iret rfl dk_Nm_abroad_49
    · refine rn_aload_n (pc := 25) 0 dk_Nm_abroad_25 rfl rfl rfl ?_
      refine gf_Nm_18 (pc := 26) rfl dk_Nm_abroad_26 ?_
      refine cl_Nm_193 (pc := 29) (As := []) (st := []) 2 rfl rfl (ct_Is_allParts X 2 rfl σ) (Nat.le_trans (Nat.le_of_ble_eq_true rfl) hF0) rfl rfl (Nat.le_of_ble_eq_true rfl) dk_Nm_abroad_29 (fun q4 => ?_)
      refine rn_aload_n (pc := 32) 0 dk_Nm_abroad_32 rfl rfl rfl ?_
      refine gf_Nm_18 (pc := 33) rfl dk_Nm_abroad_33 ?_
      refine cl_Nm_196 (pc := 36) (As := []) (st := [.int q4.1]) 2 rfl rfl (ct_Is_knownAbroad X 2 rfl q4.2) (Nat.le_trans (Nat.le_of_ble_eq_true rfl) hF0) rfl rfl (Nat.le_of_ble_eq_true rfl) dk_Nm_abroad_36 (fun q5 => ?_)
      refine rn_iconst (pc := 39) (-1 : Int32) dk_Nm_abroad_39 cn_i_m1 ?_
      refine rn_ixor (pc := 40) dk_Nm_abroad_40 ?_
      refine rn_iand (pc := 41) dk_Nm_abroad_41 ?_
      exact rn_iret rfl dk_Nm_abroad_42
  · refine rn_aload_n (pc := 4) 0 dk_Nm_abroad_4 rfl rfl rfl ?_
    refine gf_Nm_18 (pc := 5) rfl dk_Nm_abroad_5 ?_
    refine cl_Nm_190 (pc := 8) (As := []) (st := []) 2 rfl rfl (ct_Is_isMadeAbroad X 2 rfl σ) (Nat.le_trans (Nat.le_of_ble_eq_true rfl) hF0) rfl rfl (Nat.le_of_ble_eq_true rfl) dk_Nm_abroad_8 (fun q6 => ?_)
    refine rn_if_eq (pc := 11) 18 dk_Nm_abroad_11 (by decide) (fun c7 => ?_) (fun c7 => ?_)
    · refine rn_iconst (pc := 18) (0 : Int32) dk_Nm_abroad_18 cn_i_0 ?_
      exact rn_iret rfl dk_Nm_abroad_19
    · refine rn_iconst (pc := 14) (1 : Int32) dk_Nm_abroad_14 cn_i_1 ?_
      refine rn_goto (pc := 15) 19 dk_Nm_abroad_15 (by decide) ?_
      exact rn_iret rfl dk_Nm_abroad_19
theorem dk_Is_thoseAt_0 : decode mi_Is_thoseAt.2.1 0 = .ok (.iconst 0, 1) := by decide +kernel
theorem dk_Is_thoseAt_1 : decode mi_Is_thoseAt.2.1 1 = .ok (.istore_n 2, 1) := by decide +kernel
theorem dk_Is_thoseAt_2 : decode mi_Is_thoseAt.2.1 2 = .ok (.iconst 0, 1) := by decide +kernel
theorem dk_Is_thoseAt_3 : decode mi_Is_thoseAt.2.1 3 = .ok (.istore_n 3, 1) := by decide +kernel
theorem dk_Is_thoseAt_4 : decode mi_Is_thoseAt.2.1 4 = .ok (.iload_n 3, 1) := by decide +kernel
theorem dk_Is_thoseAt_5 : decode mi_Is_thoseAt.2.1 5 = .ok (.bipush 8, 2) := by decide +kernel
theorem dk_Is_thoseAt_7 : decode mi_Is_thoseAt.2.1 7 = .ok (.if_icmp .ge 24, 3) := by decide +kernel
theorem dk_Is_thoseAt_10 : decode mi_Is_thoseAt.2.1 10 = .ok (.aload_n 0, 1) := by decide +kernel
theorem dk_Is_thoseAt_11 : decode mi_Is_thoseAt.2.1 11 = .ok (.iload_n 3, 1) := by decide +kernel
theorem dk_Is_thoseAt_12 : decode mi_Is_thoseAt.2.1 12 = .ok (.iload_n 1, 1) := by decide +kernel
theorem dk_Is_thoseAt_13 : decode mi_Is_thoseAt.2.1 13 = .ok (.invokevirtual 77, 3) := by decide +kernel
theorem dk_Is_thoseAt_16 : decode mi_Is_thoseAt.2.1 16 = .ok (.ifCond .eq 9, 3) := by decide +kernel
theorem dk_Is_thoseAt_19 : decode mi_Is_thoseAt.2.1 19 = .ok (.iload_n 2, 1) := by decide +kernel
theorem dk_Is_thoseAt_20 : decode mi_Is_thoseAt.2.1 20 = .ok (.iconst 1, 1) := by decide +kernel
theorem dk_Is_thoseAt_21 : decode mi_Is_thoseAt.2.1 21 = .ok (.iload_n 3, 1) := by decide +kernel
theorem dk_Is_thoseAt_22 : decode mi_Is_thoseAt.2.1 22 = .ok (.ishl, 1) := by decide +kernel
theorem dk_Is_thoseAt_23 : decode mi_Is_thoseAt.2.1 23 = .ok (.ior, 1) := by decide +kernel
theorem dk_Is_thoseAt_24 : decode mi_Is_thoseAt.2.1 24 = .ok (.istore_n 2, 1) := by decide +kernel
theorem dk_Is_thoseAt_25 : decode mi_Is_thoseAt.2.1 25 = .ok (.iinc 3 1, 3) := by decide +kernel
theorem dk_Is_thoseAt_28 : decode mi_Is_thoseAt.2.1 28 = .ok (.goto (-24), 3) := by decide +kernel
theorem dk_Is_thoseAt_31 : decode mi_Is_thoseAt.2.1 31 = .ok (.iload_n 2, 1) := by decide +kernel
theorem dk_Is_thoseAt_32 : decode mi_Is_thoseAt.2.1 32 = .ok (.ireturn, 1) := by decide +kernel
def Is_thoseAt_l4 (o : Nat) (k_31 : Int32 → nm_St → Option (Int32 × nm_St)) : Nat → Int32 → Int32 → Int32 → nm_St → Option (Int32 × nm_St)
  | 0, _, _, _, _ => none
  | n + 1, x1, x2, x3, σ =>
    (if (8 : Int32) ≤ x3 then
      k_31 x2 σ
    else
      ((Is_isAt o x3 x1 σ).bind fun q2 =>
      (if q2.1 = 0 then
        (Is_thoseAt_l4 o k_31 n) x1 x2 (x3 + (1 : Int32)) q2.2
      else
        (nm_let ((x2 ||| ((1 : Int32) <<< (x3 &&& 31)))) fun v4 =>
        (Is_thoseAt_l4 o k_31 n) x1 v4 (x3 + (1 : Int32)) q2.2))))
set_option maxRecDepth 100000 in
set_option maxHeartbeats 4000000 in
theorem r_Is_thoseAt_l4 (X : nm_X) (F : nm_F) (hF0 : 1 ≤ nm_d F) (o : Nat) (ho : nm_isl o = true) (k_31 : Int32 → nm_St → Option (Int32 × nm_St)) (hk_31 : ∀ (x2 : Int32) (σ : nm_St), Rn X mi_Is_thoseAt F (nm_Qf X F nm_wI) [(2, .int x2)] [] 31 σ (k_31 x2 σ)) : ∀ (n : Nat) (x1 : Int32) (x2 : Int32) (x3 : Int32) (σ : nm_St), Rn X mi_Is_thoseAt F (nm_Qf X F nm_wI) [(0, .ref o), (1, .int x1), (2, .int x2), (3, .int x3)] [] 4 σ (Is_thoseAt_l4 o k_31 n x1 x2 x3 σ) := by
  intro n
  induction n with
  | zero =>
    intro x1 x2 x3 σ
    exact rn_none
  | succ n ih =>
    intro x1 x2 x3 σ
    unfold Is_thoseAt_l4
    refine rn_iload_n (pc := 4) 3 dk_Is_thoseAt_4 rfl rfl ?_
    refine rn_bipush (pc := 5) (8 : Int32) dk_Is_thoseAt_5 cn_b_8 ?_
    refine rn_icmp_ge (pc := 7) 31 dk_Is_thoseAt_7 (by decide) (fun c1 => ?_) (fun c1 => ?_)
    · exact rn_sub (by rfl) (hk_31 x2 σ)
    · refine rn_aload_n (pc := 10) 0 dk_Is_thoseAt_10 rfl rfl (nm_rok_isl ho) ?_
      refine rn_iload_n (pc := 11) 3 dk_Is_thoseAt_11 rfl rfl ?_
      refine rn_iload_n (pc := 12) 1 dk_Is_thoseAt_12 rfl rfl ?_
      refine cl_Is_77 (pc := 13) (As := [.int x3, .int x1]) (st := []) o ho rfl (ct_Is_isAt X o ho x3 x1 σ) (Nat.le_trans (Nat.le_of_ble_eq_true rfl) hF0) rfl rfl (Nat.le_of_ble_eq_true rfl) dk_Is_thoseAt_13 (fun q2 => ?_)
      refine rn_if_eq (pc := 16) 25 dk_Is_thoseAt_16 (by decide) (fun c3 => ?_) (fun c3 => ?_)
      · refine rn_iinc (pc := 25) (1 : Int32) dk_Is_thoseAt_25 cn_i_1 rfl rfl rfl ?_
        refine rn_goto (pc := 28) 4 dk_Is_thoseAt_28 (by decide) ?_
        exact rn_sub (by rfl) (ih x1 x2 (x3 + (1 : Int32)) q2.2)
      · refine rn_iload_n (pc := 19) 2 dk_Is_thoseAt_19 rfl rfl ?_
        refine rn_iconst (pc := 20) (1 : Int32) dk_Is_thoseAt_20 cn_i_1 ?_
        refine rn_iload_n (pc := 21) 3 dk_Is_thoseAt_21 rfl rfl ?_
        refine rn_ishl (pc := 22) dk_Is_thoseAt_22 ?_
        refine rn_ior (pc := 23) dk_Is_thoseAt_23 ?_
        refine rn_leti (fun v4 => ?_)
        refine rn_istore_n (pc := 24) 2 dk_Is_thoseAt_24 rfl rfl rfl ?_
        refine rn_iinc (pc := 25) (1 : Int32) dk_Is_thoseAt_25 cn_i_1 rfl rfl rfl ?_
        refine rn_goto (pc := 28) 4 dk_Is_thoseAt_28 (by decide) ?_
        exact rn_sub (by rfl) (ih x1 v4 (x3 + (1 : Int32)) q2.2)
def Is_thoseAt (o : Nat) (p1 : Int32) (σ : nm_St) : Option (Int32 × nm_St) :=
  Is_thoseAt_l4 o (fun (e6 : Int32) (s5 : nm_St) =>
    some (e6, s5)) 400 p1 (0 : Int32) (0 : Int32) σ
set_option maxRecDepth 100000 in
set_option maxHeartbeats 4000000 in
theorem ct_Is_thoseAt (X : nm_X) (o : Nat) (ho : nm_isl o = true) (p1 : Int32) (σ : nm_St) : Ct X mi_Is_thoseAt 1 nm_wI [.ref o, .int p1] σ (Is_thoseAt o p1 σ) := by
  refine Ct.of (by decide +kernel) rfl (fun F hF0 => ?_)
  unfold Is_thoseAt
  refine rn_iconst (pc := 0) (0 : Int32) dk_Is_thoseAt_0 cn_i_0 ?_
  refine rn_istore_n (pc := 1) 2 dk_Is_thoseAt_1 rfl rfl rfl ?_
  refine rn_iconst (pc := 2) (0 : Int32) dk_Is_thoseAt_2 cn_i_0 ?_
  refine rn_istore_n (pc := 3) 3 dk_Is_thoseAt_3 rfl rfl rfl ?_
  refine rn_sub (by rfl) (r_Is_thoseAt_l4 X F hF0 o ho _ (fun e6 s5 => ?_) 400 p1 (0 : Int32) (0 : Int32) σ)
  refine rn_iload_n (pc := 31) 2 dk_Is_thoseAt_31 rfl rfl ?_
  exact rn_iret rfl dk_Is_thoseAt_32
theorem dk_Ji_bitCount_0 : decode mi_Ji_bitCount.2.1 0 = .ok (.iload_n 0, 1) := by decide +kernel
theorem dk_Ji_bitCount_1 : decode mi_Ji_bitCount.2.1 1 = .ok (.iload_n 0, 1) := by decide +kernel
theorem dk_Ji_bitCount_2 : decode mi_Ji_bitCount.2.1 2 = .ok (.iconst 1, 1) := by decide +kernel
theorem dk_Ji_bitCount_3 : decode mi_Ji_bitCount.2.1 3 = .ok (.iushr, 1) := by decide +kernel
theorem dk_Ji_bitCount_4 : decode mi_Ji_bitCount.2.1 4 = .ok (.ldc_w 265, 3) := by decide +kernel
theorem dk_Ji_bitCount_7 : decode mi_Ji_bitCount.2.1 7 = .ok (.iand, 1) := by decide +kernel
theorem dk_Ji_bitCount_8 : decode mi_Ji_bitCount.2.1 8 = .ok (.isub, 1) := by decide +kernel
theorem dk_Ji_bitCount_9 : decode mi_Ji_bitCount.2.1 9 = .ok (.istore_n 0, 1) := by decide +kernel
theorem dk_Ji_bitCount_10 : decode mi_Ji_bitCount.2.1 10 = .ok (.iload_n 0, 1) := by decide +kernel
theorem dk_Ji_bitCount_11 : decode mi_Ji_bitCount.2.1 11 = .ok (.ldc_w 266, 3) := by decide +kernel
theorem dk_Ji_bitCount_14 : decode mi_Ji_bitCount.2.1 14 = .ok (.iand, 1) := by decide +kernel
theorem dk_Ji_bitCount_15 : decode mi_Ji_bitCount.2.1 15 = .ok (.iload_n 0, 1) := by decide +kernel
theorem dk_Ji_bitCount_16 : decode mi_Ji_bitCount.2.1 16 = .ok (.iconst 2, 1) := by decide +kernel
theorem dk_Ji_bitCount_17 : decode mi_Ji_bitCount.2.1 17 = .ok (.iushr, 1) := by decide +kernel
theorem dk_Ji_bitCount_18 : decode mi_Ji_bitCount.2.1 18 = .ok (.ldc_w 266, 3) := by decide +kernel
theorem dk_Ji_bitCount_21 : decode mi_Ji_bitCount.2.1 21 = .ok (.iand, 1) := by decide +kernel
theorem dk_Ji_bitCount_22 : decode mi_Ji_bitCount.2.1 22 = .ok (.iadd, 1) := by decide +kernel
theorem dk_Ji_bitCount_23 : decode mi_Ji_bitCount.2.1 23 = .ok (.istore_n 0, 1) := by decide +kernel
theorem dk_Ji_bitCount_24 : decode mi_Ji_bitCount.2.1 24 = .ok (.iload_n 0, 1) := by decide +kernel
theorem dk_Ji_bitCount_25 : decode mi_Ji_bitCount.2.1 25 = .ok (.iload_n 0, 1) := by decide +kernel
theorem dk_Ji_bitCount_26 : decode mi_Ji_bitCount.2.1 26 = .ok (.iconst 4, 1) := by decide +kernel
theorem dk_Ji_bitCount_27 : decode mi_Ji_bitCount.2.1 27 = .ok (.iushr, 1) := by decide +kernel
theorem dk_Ji_bitCount_28 : decode mi_Ji_bitCount.2.1 28 = .ok (.iadd, 1) := by decide +kernel
theorem dk_Ji_bitCount_29 : decode mi_Ji_bitCount.2.1 29 = .ok (.ldc_w 267, 3) := by decide +kernel
theorem dk_Ji_bitCount_32 : decode mi_Ji_bitCount.2.1 32 = .ok (.iand, 1) := by decide +kernel
theorem dk_Ji_bitCount_33 : decode mi_Ji_bitCount.2.1 33 = .ok (.istore_n 0, 1) := by decide +kernel
theorem dk_Ji_bitCount_34 : decode mi_Ji_bitCount.2.1 34 = .ok (.iload_n 0, 1) := by decide +kernel
theorem dk_Ji_bitCount_35 : decode mi_Ji_bitCount.2.1 35 = .ok (.iload_n 0, 1) := by decide +kernel
theorem dk_Ji_bitCount_36 : decode mi_Ji_bitCount.2.1 36 = .ok (.bipush 8, 2) := by decide +kernel
theorem dk_Ji_bitCount_38 : decode mi_Ji_bitCount.2.1 38 = .ok (.iushr, 1) := by decide +kernel
theorem dk_Ji_bitCount_39 : decode mi_Ji_bitCount.2.1 39 = .ok (.iadd, 1) := by decide +kernel
theorem dk_Ji_bitCount_40 : decode mi_Ji_bitCount.2.1 40 = .ok (.istore_n 0, 1) := by decide +kernel
theorem dk_Ji_bitCount_41 : decode mi_Ji_bitCount.2.1 41 = .ok (.iload_n 0, 1) := by decide +kernel
theorem dk_Ji_bitCount_42 : decode mi_Ji_bitCount.2.1 42 = .ok (.iload_n 0, 1) := by decide +kernel
theorem dk_Ji_bitCount_43 : decode mi_Ji_bitCount.2.1 43 = .ok (.bipush 16, 2) := by decide +kernel
theorem dk_Ji_bitCount_45 : decode mi_Ji_bitCount.2.1 45 = .ok (.iushr, 1) := by decide +kernel
theorem dk_Ji_bitCount_46 : decode mi_Ji_bitCount.2.1 46 = .ok (.iadd, 1) := by decide +kernel
theorem dk_Ji_bitCount_47 : decode mi_Ji_bitCount.2.1 47 = .ok (.istore_n 0, 1) := by decide +kernel
theorem dk_Ji_bitCount_48 : decode mi_Ji_bitCount.2.1 48 = .ok (.iload_n 0, 1) := by decide +kernel
theorem dk_Ji_bitCount_49 : decode mi_Ji_bitCount.2.1 49 = .ok (.bipush 63, 2) := by decide +kernel
theorem dk_Ji_bitCount_51 : decode mi_Ji_bitCount.2.1 51 = .ok (.iand, 1) := by decide +kernel
theorem dk_Ji_bitCount_52 : decode mi_Ji_bitCount.2.1 52 = .ok (.ireturn, 1) := by decide +kernel
def Ji_bitCount (p0 : Int32) (σ : nm_St) : Option (Int32 × nm_St) :=
  (nm_let ((p0 - ((UInt32.toInt32 (Int32.toUInt32 p0 >>> (Int32.toUInt32 (1 : Int32) &&& Int32.toUInt32 31))) &&& (1431655765 : Int32)))) fun v1 =>
  (nm_let (((v1 &&& (858993459 : Int32)) + ((UInt32.toInt32 (Int32.toUInt32 v1 >>> (Int32.toUInt32 (2 : Int32) &&& Int32.toUInt32 31))) &&& (858993459 : Int32)))) fun v2 =>
  (nm_let (((v2 + (UInt32.toInt32 (Int32.toUInt32 v2 >>> (Int32.toUInt32 (4 : Int32) &&& Int32.toUInt32 31)))) &&& (252645135 : Int32))) fun v3 =>
  (nm_let ((v3 + (UInt32.toInt32 (Int32.toUInt32 v3 >>> (Int32.toUInt32 (8 : Int32) &&& Int32.toUInt32 31))))) fun v4 =>
  (nm_let ((v4 + (UInt32.toInt32 (Int32.toUInt32 v4 >>> (Int32.toUInt32 (16 : Int32) &&& Int32.toUInt32 31))))) fun v5 =>
  some ((v5 &&& (63 : Int32)), σ))))))
set_option maxRecDepth 100000 in
set_option maxHeartbeats 4000000 in
theorem ct_Ji_bitCount (X : nm_X) (p0 : Int32) (σ : nm_St) : Ct X mi_Ji_bitCount 0 nm_wI [.int p0] σ (Ji_bitCount p0 σ) := by
  refine Ct.of (by decide +kernel) rfl (fun F hF0 => ?_)
  unfold Ji_bitCount
  refine rn_iload_n (pc := 0) 0 dk_Ji_bitCount_0 rfl rfl ?_
  refine rn_iload_n (pc := 1) 0 dk_Ji_bitCount_1 rfl rfl ?_
  refine rn_iconst (pc := 2) (1 : Int32) dk_Ji_bitCount_2 cn_i_1 ?_
  refine rn_iushr (pc := 3) dk_Ji_bitCount_3 ?_
  refine rn_ldcw (pc := 4) (1431655765 : Int32) dk_Ji_bitCount_4 wd_722 ?_
  refine rn_iand (pc := 7) dk_Ji_bitCount_7 ?_
  refine rn_isub (pc := 8) dk_Ji_bitCount_8 ?_
  refine rn_leti (fun v1 => ?_)
  refine rn_istore_n (pc := 9) 0 dk_Ji_bitCount_9 rfl rfl rfl ?_
  refine rn_iload_n (pc := 10) 0 dk_Ji_bitCount_10 rfl rfl ?_
  refine rn_ldcw (pc := 11) (858993459 : Int32) dk_Ji_bitCount_11 wd_723 ?_
  refine rn_iand (pc := 14) dk_Ji_bitCount_14 ?_
  refine rn_iload_n (pc := 15) 0 dk_Ji_bitCount_15 rfl rfl ?_
  refine rn_iconst (pc := 16) (2 : Int32) dk_Ji_bitCount_16 cn_i_2 ?_
  refine rn_iushr (pc := 17) dk_Ji_bitCount_17 ?_
  refine rn_ldcw (pc := 18) (858993459 : Int32) dk_Ji_bitCount_18 wd_723 ?_
  refine rn_iand (pc := 21) dk_Ji_bitCount_21 ?_
  refine rn_iadd (pc := 22) dk_Ji_bitCount_22 ?_
  refine rn_leti (fun v2 => ?_)
  refine rn_istore_n (pc := 23) 0 dk_Ji_bitCount_23 rfl rfl rfl ?_
  refine rn_iload_n (pc := 24) 0 dk_Ji_bitCount_24 rfl rfl ?_
  refine rn_iload_n (pc := 25) 0 dk_Ji_bitCount_25 rfl rfl ?_
  refine rn_iconst (pc := 26) (4 : Int32) dk_Ji_bitCount_26 cn_i_4 ?_
  refine rn_iushr (pc := 27) dk_Ji_bitCount_27 ?_
  refine rn_iadd (pc := 28) dk_Ji_bitCount_28 ?_
  refine rn_ldcw (pc := 29) (252645135 : Int32) dk_Ji_bitCount_29 wd_724 ?_
  refine rn_iand (pc := 32) dk_Ji_bitCount_32 ?_
  refine rn_leti (fun v3 => ?_)
  refine rn_istore_n (pc := 33) 0 dk_Ji_bitCount_33 rfl rfl rfl ?_
  refine rn_iload_n (pc := 34) 0 dk_Ji_bitCount_34 rfl rfl ?_
  refine rn_iload_n (pc := 35) 0 dk_Ji_bitCount_35 rfl rfl ?_
  refine rn_bipush (pc := 36) (8 : Int32) dk_Ji_bitCount_36 cn_b_8 ?_
  refine rn_iushr (pc := 38) dk_Ji_bitCount_38 ?_
  refine rn_iadd (pc := 39) dk_Ji_bitCount_39 ?_
  refine rn_leti (fun v4 => ?_)
  refine rn_istore_n (pc := 40) 0 dk_Ji_bitCount_40 rfl rfl rfl ?_
  refine rn_iload_n (pc := 41) 0 dk_Ji_bitCount_41 rfl rfl ?_
  refine rn_iload_n (pc := 42) 0 dk_Ji_bitCount_42 rfl rfl ?_
  refine rn_bipush (pc := 43) (16 : Int32) dk_Ji_bitCount_43 cn_b_16 ?_
  refine rn_iushr (pc := 45) dk_Ji_bitCount_45 ?_
  refine rn_iadd (pc := 46) dk_Ji_bitCount_46 ?_
  refine rn_leti (fun v5 => ?_)
  refine rn_istore_n (pc := 47) 0 dk_Ji_bitCount_47 rfl rfl rfl ?_
  refine rn_iload_n (pc := 48) 0 dk_Ji_bitCount_48 rfl rfl ?_
  refine rn_bipush (pc := 49) (63 : Int32) dk_Ji_bitCount_49 cn_b_63 ?_
  refine rn_iand (pc := 51) dk_Ji_bitCount_51 ?_
  exact rn_iret rfl dk_Ji_bitCount_52
theorem dk_Se_fewestThatMake_0 : decode mi_Se_fewestThatMake.2.1 0 = .ok (.iconst (-1), 1) := by decide +kernel
theorem dk_Se_fewestThatMake_1 : decode mi_Se_fewestThatMake.2.1 1 = .ok (.istore_n 3, 1) := by decide +kernel
theorem dk_Se_fewestThatMake_2 : decode mi_Se_fewestThatMake.2.1 2 = .ok (.bipush 9, 2) := by decide +kernel
theorem dk_Se_fewestThatMake_4 : decode mi_Se_fewestThatMake.2.1 4 = .ok (.istore 4, 2) := by decide +kernel
theorem dk_Se_fewestThatMake_6 : decode mi_Se_fewestThatMake.2.1 6 = .ok (.iconst 0, 1) := by decide +kernel
theorem dk_Se_fewestThatMake_7 : decode mi_Se_fewestThatMake.2.1 7 = .ok (.istore 5, 2) := by decide +kernel
theorem dk_Se_fewestThatMake_9 : decode mi_Se_fewestThatMake.2.1 9 = .ok (.iload 5, 2) := by decide +kernel
theorem dk_Se_fewestThatMake_11 : decode mi_Se_fewestThatMake.2.1 11 = .ok (.aload_n 0, 1) := by decide +kernel
theorem dk_Se_fewestThatMake_12 : decode mi_Se_fewestThatMake.2.1 12 = .ok (.getfield 21, 3) := by decide +kernel
theorem dk_Se_fewestThatMake_15 : decode mi_Se_fewestThatMake.2.1 15 = .ok (.if_icmp .ge 53, 3) := by decide +kernel
theorem dk_Se_fewestThatMake_18 : decode mi_Se_fewestThatMake.2.1 18 = .ok (.aload_n 0, 1) := by decide +kernel
theorem dk_Se_fewestThatMake_19 : decode mi_Se_fewestThatMake.2.1 19 = .ok (.getfield 11, 3) := by decide +kernel
theorem dk_Se_fewestThatMake_22 : decode mi_Se_fewestThatMake.2.1 22 = .ok (.iload 5, 2) := by decide +kernel
theorem dk_Se_fewestThatMake_24 : decode mi_Se_fewestThatMake.2.1 24 = .ok (.iaload, 1) := by decide +kernel
theorem dk_Se_fewestThatMake_25 : decode mi_Se_fewestThatMake.2.1 25 = .ok (.invokestatic 42, 3) := by decide +kernel
theorem dk_Se_fewestThatMake_28 : decode mi_Se_fewestThatMake.2.1 28 = .ok (.istore 6, 2) := by decide +kernel
theorem dk_Se_fewestThatMake_30 : decode mi_Se_fewestThatMake.2.1 30 = .ok (.aload_n 0, 1) := by decide +kernel
theorem dk_Se_fewestThatMake_31 : decode mi_Se_fewestThatMake.2.1 31 = .ok (.getfield 18, 3) := by decide +kernel
theorem dk_Se_fewestThatMake_34 : decode mi_Se_fewestThatMake.2.1 34 = .ok (.iload 5, 2) := by decide +kernel
theorem dk_Se_fewestThatMake_36 : decode mi_Se_fewestThatMake.2.1 36 = .ok (.iaload, 1) := by decide +kernel
theorem dk_Se_fewestThatMake_37 : decode mi_Se_fewestThatMake.2.1 37 = .ok (.iload_n 1, 1) := by decide +kernel
theorem dk_Se_fewestThatMake_38 : decode mi_Se_fewestThatMake.2.1 38 = .ok (.ior, 1) := by decide +kernel
theorem dk_Se_fewestThatMake_39 : decode mi_Se_fewestThatMake.2.1 39 = .ok (.iload_n 2, 1) := by decide +kernel
theorem dk_Se_fewestThatMake_40 : decode mi_Se_fewestThatMake.2.1 40 = .ok (.if_icmp .ne 22, 3) := by decide +kernel
theorem dk_Se_fewestThatMake_43 : decode mi_Se_fewestThatMake.2.1 43 = .ok (.iload 6, 2) := by decide +kernel
theorem dk_Se_fewestThatMake_45 : decode mi_Se_fewestThatMake.2.1 45 = .ok (.iload 4, 2) := by decide +kernel
theorem dk_Se_fewestThatMake_47 : decode mi_Se_fewestThatMake.2.1 47 = .ok (.if_icmp .ge 15, 3) := by decide +kernel
theorem dk_Se_fewestThatMake_50 : decode mi_Se_fewestThatMake.2.1 50 = .ok (.iload 6, 2) := by decide +kernel
theorem dk_Se_fewestThatMake_52 : decode mi_Se_fewestThatMake.2.1 52 = .ok (.istore 4, 2) := by decide +kernel
theorem dk_Se_fewestThatMake_54 : decode mi_Se_fewestThatMake.2.1 54 = .ok (.aload_n 0, 1) := by decide +kernel
theorem dk_Se_fewestThatMake_55 : decode mi_Se_fewestThatMake.2.1 55 = .ok (.getfield 11, 3) := by decide +kernel
theorem dk_Se_fewestThatMake_58 : decode mi_Se_fewestThatMake.2.1 58 = .ok (.iload 5, 2) := by decide +kernel
theorem dk_Se_fewestThatMake_60 : decode mi_Se_fewestThatMake.2.1 60 = .ok (.iaload, 1) := by decide +kernel
theorem dk_Se_fewestThatMake_61 : decode mi_Se_fewestThatMake.2.1 61 = .ok (.istore_n 3, 1) := by decide +kernel
theorem dk_Se_fewestThatMake_62 : decode mi_Se_fewestThatMake.2.1 62 = .ok (.iinc 5 1, 3) := by decide +kernel
theorem dk_Se_fewestThatMake_65 : decode mi_Se_fewestThatMake.2.1 65 = .ok (.goto (-56), 3) := by decide +kernel
theorem dk_Se_fewestThatMake_68 : decode mi_Se_fewestThatMake.2.1 68 = .ok (.iload_n 3, 1) := by decide +kernel
theorem dk_Se_fewestThatMake_69 : decode mi_Se_fewestThatMake.2.1 69 = .ok (.ireturn, 1) := by decide +kernel
def Se_fewestThatMake_l9 (k_68 : Int32 → nm_St → Option (Int32 × nm_St)) : Nat → Int32 → Int32 → Int32 → Int32 → Int32 → nm_St → Option (Int32 × nm_St)
  | 0, _, _, _, _, _, _ => none
  | n + 1, x1, x2, x3, x4, x5, σ =>
    (if (σ.1 23 3) ≤ x5 then
      k_68 x3 σ
    else
      (nm_g (nm_in x5 256) (
      ((Ji_bitCount (σ.1 24 x5.toNatClampNeg) σ).bind fun q3 =>
      (nm_g (nm_in x5 256) (
      (if ((q3.2.1 26 x5.toNatClampNeg) ||| x1) = x2 then
        (if x4 ≤ q3.1 then
          (Se_fewestThatMake_l9 k_68 n) x1 x2 x3 x4 (x5 + (1 : Int32)) q3.2
        else
          (nm_g (nm_in x5 256) (
          (nm_let ((q3.2.1 24 x5.toNatClampNeg)) fun v8 =>
          (Se_fewestThatMake_l9 k_68 n) x1 x2 v8 q3.1 (x5 + (1 : Int32)) q3.2))))
      else
        (Se_fewestThatMake_l9 k_68 n) x1 x2 x3 x4 (x5 + (1 : Int32)) q3.2)))))))
set_option maxRecDepth 100000 in
set_option maxHeartbeats 4000000 in
theorem r_Se_fewestThatMake_l9 (X : nm_X) (F : nm_F) (hF0 : 1 ≤ nm_d F) (k_68 : Int32 → nm_St → Option (Int32 × nm_St)) (hk_68 : ∀ (x3 : Int32) (σ : nm_St), Rn X mi_Se_fewestThatMake F (nm_Qf X F nm_wI) [(3, .int x3)] [] 68 σ (k_68 x3 σ)) : ∀ (n : Nat) (x1 : Int32) (x2 : Int32) (x3 : Int32) (x4 : Int32) (x5 : Int32) (σ : nm_St), Rn X mi_Se_fewestThatMake F (nm_Qf X F nm_wI) [(0, .ref 23), (1, .int x1), (2, .int x2), (3, .int x3), (4, .int x4), (5, .int x5)] [] 9 σ (Se_fewestThatMake_l9 k_68 n x1 x2 x3 x4 x5 σ) := by
  intro n
  induction n with
  | zero =>
    intro x1 x2 x3 x4 x5 σ
    exact rn_none
  | succ n ih =>
    intro x1 x2 x3 x4 x5 σ
    unfold Se_fewestThatMake_l9
    refine rn_iload (pc := 9) dk_Se_fewestThatMake_9 rfl ?_
    refine rn_aload_n (pc := 11) 0 dk_Se_fewestThatMake_11 rfl rfl rfl ?_
    refine gf_Se_21 (pc := 12) rfl dk_Se_fewestThatMake_12 ?_
    refine rn_icmp_ge (pc := 15) 68 dk_Se_fewestThatMake_15 (by decide) (fun c1 => ?_) (fun c1 => ?_)
    · exact rn_sub (by rfl) (hk_68 x3 σ)
    · refine rn_aload_n (pc := 18) 0 dk_Se_fewestThatMake_18 rfl rfl rfl ?_
      refine gf_Se_11 (pc := 19) rfl dk_Se_fewestThatMake_19 ?_
      refine rn_iload (pc := 22) dk_Se_fewestThatMake_22 rfl ?_
      refine rn_iaload (pc := 24) rfl dk_Se_fewestThatMake_24 (fun g2 => ?_)
      refine cl_Se_42 (pc := 25) (As := [.int (σ.1 24 x5.toNatClampNeg)]) (st := []) rfl (ct_Ji_bitCount X (σ.1 24 x5.toNatClampNeg) σ) (Nat.le_trans (Nat.le_of_ble_eq_true rfl) hF0) rfl rfl (Nat.le_of_ble_eq_true rfl) dk_Se_fewestThatMake_25 (fun q3 => ?_)
      refine rn_istore (pc := 28) dk_Se_fewestThatMake_28 rfl rfl ?_
      refine rn_aload_n (pc := 30) 0 dk_Se_fewestThatMake_30 rfl rfl rfl ?_
      refine gf_Se_18 (pc := 31) rfl dk_Se_fewestThatMake_31 ?_
      refine rn_iload (pc := 34) dk_Se_fewestThatMake_34 rfl ?_
      refine rn_iaload (pc := 36) rfl dk_Se_fewestThatMake_36 (fun g4 => ?_)
      refine rn_iload_n (pc := 37) 1 dk_Se_fewestThatMake_37 rfl rfl ?_
      refine rn_ior (pc := 38) dk_Se_fewestThatMake_38 ?_
      refine rn_iload_n (pc := 39) 2 dk_Se_fewestThatMake_39 rfl rfl ?_
      refine rn_icmp_ne (pc := 40) 62 dk_Se_fewestThatMake_40 (by decide) (fun c5 => ?_) (fun c5 => ?_)
      · refine rn_iinc (pc := 62) (1 : Int32) dk_Se_fewestThatMake_62 cn_i_1 rfl rfl rfl ?_
        refine rn_goto (pc := 65) 9 dk_Se_fewestThatMake_65 (by decide) ?_
        exact rn_sub (by rfl) (ih x1 x2 x3 x4 (x5 + (1 : Int32)) q3.2)
      · refine rn_iload (pc := 43) dk_Se_fewestThatMake_43 rfl ?_
        refine rn_iload (pc := 45) dk_Se_fewestThatMake_45 rfl ?_
        refine rn_icmp_ge (pc := 47) 62 dk_Se_fewestThatMake_47 (by decide) (fun c6 => ?_) (fun c6 => ?_)
        · refine rn_iinc (pc := 62) (1 : Int32) dk_Se_fewestThatMake_62 cn_i_1 rfl rfl rfl ?_
          refine rn_goto (pc := 65) 9 dk_Se_fewestThatMake_65 (by decide) ?_
          exact rn_sub (by rfl) (ih x1 x2 x3 x4 (x5 + (1 : Int32)) q3.2)
        · refine rn_iload (pc := 50) dk_Se_fewestThatMake_50 rfl ?_
          refine rn_istore (pc := 52) dk_Se_fewestThatMake_52 rfl rfl ?_
          refine rn_aload_n (pc := 54) 0 dk_Se_fewestThatMake_54 rfl rfl rfl ?_
          refine gf_Se_11 (pc := 55) rfl dk_Se_fewestThatMake_55 ?_
          refine rn_iload (pc := 58) dk_Se_fewestThatMake_58 rfl ?_
          refine rn_iaload (pc := 60) rfl dk_Se_fewestThatMake_60 (fun g7 => ?_)
          refine rn_leti (fun v8 => ?_)
          refine rn_istore_n (pc := 61) 3 dk_Se_fewestThatMake_61 rfl rfl rfl ?_
          refine rn_iinc (pc := 62) (1 : Int32) dk_Se_fewestThatMake_62 cn_i_1 rfl rfl rfl ?_
          refine rn_goto (pc := 65) 9 dk_Se_fewestThatMake_65 (by decide) ?_
          exact rn_sub (by rfl) (ih x1 x2 v8 q3.1 (x5 + (1 : Int32)) q3.2)
def Se_fewestThatMake (p1 : Int32) (p2 : Int32) (σ : nm_St) : Option (Int32 × nm_St) :=
  Se_fewestThatMake_l9 (fun (e10 : Int32) (s9 : nm_St) =>
    some (e10, s9)) 400 p1 p2 (-1 : Int32) (9 : Int32) (0 : Int32) σ
set_option maxRecDepth 100000 in
set_option maxHeartbeats 4000000 in
theorem ct_Se_fewestThatMake (X : nm_X) (p1 : Int32) (p2 : Int32) (σ : nm_St) : Ct X mi_Se_fewestThatMake 1 nm_wI [.ref 23, .int p1, .int p2] σ (Se_fewestThatMake p1 p2 σ) := by
  refine Ct.of (by decide +kernel) rfl (fun F hF0 => ?_)
  unfold Se_fewestThatMake
  refine rn_iconst (pc := 0) (-1 : Int32) dk_Se_fewestThatMake_0 cn_i_m1 ?_
  refine rn_istore_n (pc := 1) 3 dk_Se_fewestThatMake_1 rfl rfl rfl ?_
  refine rn_bipush (pc := 2) (9 : Int32) dk_Se_fewestThatMake_2 cn_b_9 ?_
  refine rn_istore (pc := 4) dk_Se_fewestThatMake_4 rfl rfl ?_
  refine rn_iconst (pc := 6) (0 : Int32) dk_Se_fewestThatMake_6 cn_i_0 ?_
  refine rn_istore (pc := 7) dk_Se_fewestThatMake_7 rfl rfl ?_
  refine rn_sub (by rfl) (r_Se_fewestThatMake_l9 X F hF0 _ (fun e10 s9 => ?_) 400 p1 p2 (-1 : Int32) (9 : Int32) (0 : Int32) σ)
  refine rn_iload_n (pc := 68) 3 dk_Se_fewestThatMake_68 rfl rfl ?_
  exact rn_iret rfl dk_Se_fewestThatMake_69
theorem dk_Se_addMaker_0 : decode mi_Se_addMaker.2.1 0 = .ok (.aload_n 0, 1) := by decide +kernel
theorem dk_Se_addMaker_1 : decode mi_Se_addMaker.2.1 1 = .ok (.getfield 21, 3) := by decide +kernel
theorem dk_Se_addMaker_4 : decode mi_Se_addMaker.2.1 4 = .ok (.istore 4, 2) := by decide +kernel
theorem dk_Se_addMaker_6 : decode mi_Se_addMaker.2.1 6 = .ok (.iload 4, 2) := by decide +kernel
theorem dk_Se_addMaker_8 : decode mi_Se_addMaker.2.1 8 = .ok (.iconst 2, 1) := by decide +kernel
theorem dk_Se_addMaker_9 : decode mi_Se_addMaker.2.1 9 = .ok (.imul, 1) := by decide +kernel
theorem dk_Se_addMaker_10 : decode mi_Se_addMaker.2.1 10 = .ok (.sipush 256, 3) := by decide +kernel
theorem dk_Se_addMaker_13 : decode mi_Se_addMaker.2.1 13 = .ok (.if_icmp .le 4, 3) := by decide +kernel
theorem dk_Se_addMaker_16 : decode mi_Se_addMaker.2.1 16 = .ok (.return_, 1) := by decide +kernel
theorem dk_Se_addMaker_17 : decode mi_Se_addMaker.2.1 17 = .ok (.iconst 0, 1) := by decide +kernel
theorem dk_Se_addMaker_18 : decode mi_Se_addMaker.2.1 18 = .ok (.istore 5, 2) := by decide +kernel
theorem dk_Se_addMaker_20 : decode mi_Se_addMaker.2.1 20 = .ok (.iload 5, 2) := by decide +kernel
theorem dk_Se_addMaker_22 : decode mi_Se_addMaker.2.1 22 = .ok (.iload 4, 2) := by decide +kernel
theorem dk_Se_addMaker_24 : decode mi_Se_addMaker.2.1 24 = .ok (.if_icmp .ge 68, 3) := by decide +kernel
theorem dk_Se_addMaker_27 : decode mi_Se_addMaker.2.1 27 = .ok (.aload_n 0, 1) := by decide +kernel
theorem dk_Se_addMaker_28 : decode mi_Se_addMaker.2.1 28 = .ok (.getfield 11, 3) := by decide +kernel
theorem dk_Se_addMaker_31 : decode mi_Se_addMaker.2.1 31 = .ok (.iload 4, 2) := by decide +kernel
theorem dk_Se_addMaker_33 : decode mi_Se_addMaker.2.1 33 = .ok (.iload 5, 2) := by decide +kernel
theorem dk_Se_addMaker_35 : decode mi_Se_addMaker.2.1 35 = .ok (.iadd, 1) := by decide +kernel
theorem dk_Se_addMaker_36 : decode mi_Se_addMaker.2.1 36 = .ok (.aload_n 0, 1) := by decide +kernel
theorem dk_Se_addMaker_37 : decode mi_Se_addMaker.2.1 37 = .ok (.getfield 11, 3) := by decide +kernel
theorem dk_Se_addMaker_40 : decode mi_Se_addMaker.2.1 40 = .ok (.iload 5, 2) := by decide +kernel
theorem dk_Se_addMaker_42 : decode mi_Se_addMaker.2.1 42 = .ok (.iaload, 1) := by decide +kernel
theorem dk_Se_addMaker_43 : decode mi_Se_addMaker.2.1 43 = .ok (.iconst 1, 1) := by decide +kernel
theorem dk_Se_addMaker_44 : decode mi_Se_addMaker.2.1 44 = .ok (.iload_n 1, 1) := by decide +kernel
theorem dk_Se_addMaker_45 : decode mi_Se_addMaker.2.1 45 = .ok (.ishl, 1) := by decide +kernel
theorem dk_Se_addMaker_46 : decode mi_Se_addMaker.2.1 46 = .ok (.ior, 1) := by decide +kernel
theorem dk_Se_addMaker_47 : decode mi_Se_addMaker.2.1 47 = .ok (.iastore, 1) := by decide +kernel
theorem dk_Se_addMaker_48 : decode mi_Se_addMaker.2.1 48 = .ok (.aload_n 0, 1) := by decide +kernel
theorem dk_Se_addMaker_49 : decode mi_Se_addMaker.2.1 49 = .ok (.getfield 15, 3) := by decide +kernel
theorem dk_Se_addMaker_52 : decode mi_Se_addMaker.2.1 52 = .ok (.iload 4, 2) := by decide +kernel
theorem dk_Se_addMaker_54 : decode mi_Se_addMaker.2.1 54 = .ok (.iload 5, 2) := by decide +kernel
theorem dk_Se_addMaker_56 : decode mi_Se_addMaker.2.1 56 = .ok (.iadd, 1) := by decide +kernel
theorem dk_Se_addMaker_57 : decode mi_Se_addMaker.2.1 57 = .ok (.aload_n 0, 1) := by decide +kernel
theorem dk_Se_addMaker_58 : decode mi_Se_addMaker.2.1 58 = .ok (.getfield 15, 3) := by decide +kernel
theorem dk_Se_addMaker_61 : decode mi_Se_addMaker.2.1 61 = .ok (.iload 5, 2) := by decide +kernel
theorem dk_Se_addMaker_63 : decode mi_Se_addMaker.2.1 63 = .ok (.iaload, 1) := by decide +kernel
theorem dk_Se_addMaker_64 : decode mi_Se_addMaker.2.1 64 = .ok (.iload_n 2, 1) := by decide +kernel
theorem dk_Se_addMaker_65 : decode mi_Se_addMaker.2.1 65 = .ok (.iadd, 1) := by decide +kernel
theorem dk_Se_addMaker_66 : decode mi_Se_addMaker.2.1 66 = .ok (.iastore, 1) := by decide +kernel
theorem dk_Se_addMaker_67 : decode mi_Se_addMaker.2.1 67 = .ok (.aload_n 0, 1) := by decide +kernel
theorem dk_Se_addMaker_68 : decode mi_Se_addMaker.2.1 68 = .ok (.getfield 18, 3) := by decide +kernel
theorem dk_Se_addMaker_71 : decode mi_Se_addMaker.2.1 71 = .ok (.iload 4, 2) := by decide +kernel
theorem dk_Se_addMaker_73 : decode mi_Se_addMaker.2.1 73 = .ok (.iload 5, 2) := by decide +kernel
theorem dk_Se_addMaker_75 : decode mi_Se_addMaker.2.1 75 = .ok (.iadd, 1) := by decide +kernel
theorem dk_Se_addMaker_76 : decode mi_Se_addMaker.2.1 76 = .ok (.aload_n 0, 1) := by decide +kernel
theorem dk_Se_addMaker_77 : decode mi_Se_addMaker.2.1 77 = .ok (.getfield 18, 3) := by decide +kernel
theorem dk_Se_addMaker_80 : decode mi_Se_addMaker.2.1 80 = .ok (.iload 5, 2) := by decide +kernel
theorem dk_Se_addMaker_82 : decode mi_Se_addMaker.2.1 82 = .ok (.iaload, 1) := by decide +kernel
theorem dk_Se_addMaker_83 : decode mi_Se_addMaker.2.1 83 = .ok (.iload_n 3, 1) := by decide +kernel
theorem dk_Se_addMaker_84 : decode mi_Se_addMaker.2.1 84 = .ok (.ior, 1) := by decide +kernel
theorem dk_Se_addMaker_85 : decode mi_Se_addMaker.2.1 85 = .ok (.iastore, 1) := by decide +kernel
theorem dk_Se_addMaker_86 : decode mi_Se_addMaker.2.1 86 = .ok (.iinc 5 1, 3) := by decide +kernel
theorem dk_Se_addMaker_89 : decode mi_Se_addMaker.2.1 89 = .ok (.goto (-69), 3) := by decide +kernel
theorem dk_Se_addMaker_92 : decode mi_Se_addMaker.2.1 92 = .ok (.aload_n 0, 1) := by decide +kernel
theorem dk_Se_addMaker_93 : decode mi_Se_addMaker.2.1 93 = .ok (.iload 4, 2) := by decide +kernel
theorem dk_Se_addMaker_95 : decode mi_Se_addMaker.2.1 95 = .ok (.iconst 2, 1) := by decide +kernel
theorem dk_Se_addMaker_96 : decode mi_Se_addMaker.2.1 96 = .ok (.imul, 1) := by decide +kernel
theorem dk_Se_addMaker_97 : decode mi_Se_addMaker.2.1 97 = .ok (.putfield 21, 3) := by decide +kernel
theorem dk_Se_addMaker_100 : decode mi_Se_addMaker.2.1 100 = .ok (.return_, 1) := by decide +kernel
def Se_addMaker_l20 (k_92 : Int32 → nm_St → Option (Unit × nm_St)) : Nat → Int32 → Int32 → Int32 → Int32 → Int32 → nm_St → Option (Unit × nm_St)
  | 0, _, _, _, _, _, _ => none
  | n + 1, x1, x2, x3, x4, x5, σ =>
    (if x4 ≤ x5 then
      k_92 x4 σ
    else
      (nm_g (nm_in x5 256) (
      (nm_g (nm_in (x4 + x5) 256) (
      (nm_let (nm_pI σ 24 (x4 + x5).toNatClampNeg ((σ.1 24 x5.toNatClampNeg) ||| ((1 : Int32) <<< (x1 &&& 31)))) fun s5 =>
      (nm_g (nm_in x5 256) (
      (nm_g (nm_in (x4 + x5) 256) (
      (nm_let (nm_pI s5 25 (x4 + x5).toNatClampNeg ((s5.1 25 x5.toNatClampNeg) + x2)) fun s8 =>
      (nm_g (nm_in x5 256) (
      (nm_g (nm_in (x4 + x5) 256) (
      (nm_let (nm_pI s8 26 (x4 + x5).toNatClampNeg ((s8.1 26 x5.toNatClampNeg) ||| x3)) fun s11 =>
      (Se_addMaker_l20 k_92 n) x1 x2 x3 x4 (x5 + (1 : Int32)) s11))))))))))))))))
set_option maxRecDepth 100000 in
set_option maxHeartbeats 4000000 in
theorem r_Se_addMaker_l20 (X : nm_X) (F : nm_F) (hF0 : 0 ≤ nm_d F) (k_92 : Int32 → nm_St → Option (Unit × nm_St)) (hk_92 : ∀ (x4 : Int32) (σ : nm_St), Rn X mi_Se_addMaker F (nm_Qf X F nm_wV) [(0, .ref 23), (4, .int x4)] [] 92 σ (k_92 x4 σ)) : ∀ (n : Nat) (x1 : Int32) (x2 : Int32) (x3 : Int32) (x4 : Int32) (x5 : Int32) (σ : nm_St), Rn X mi_Se_addMaker F (nm_Qf X F nm_wV) [(0, .ref 23), (1, .int x1), (2, .int x2), (3, .int x3), (4, .int x4), (5, .int x5)] [] 20 σ (Se_addMaker_l20 k_92 n x1 x2 x3 x4 x5 σ) := by
  intro n
  induction n with
  | zero =>
    intro x1 x2 x3 x4 x5 σ
    exact rn_none
  | succ n ih =>
    intro x1 x2 x3 x4 x5 σ
    unfold Se_addMaker_l20
    refine rn_iload (pc := 20) dk_Se_addMaker_20 rfl ?_
    refine rn_iload (pc := 22) dk_Se_addMaker_22 rfl ?_
    refine rn_icmp_ge (pc := 24) 92 dk_Se_addMaker_24 (by decide) (fun c2 => ?_) (fun c2 => ?_)
    · exact rn_sub (by rfl) (hk_92 x4 σ)
    · refine rn_aload_n (pc := 27) 0 dk_Se_addMaker_27 rfl rfl rfl ?_
      refine gf_Se_11 (pc := 28) rfl dk_Se_addMaker_28 ?_
      refine rn_iload (pc := 31) dk_Se_addMaker_31 rfl ?_
      refine rn_iload (pc := 33) dk_Se_addMaker_33 rfl ?_
      refine rn_iadd (pc := 35) dk_Se_addMaker_35 ?_
      refine rn_aload_n (pc := 36) 0 dk_Se_addMaker_36 rfl rfl rfl ?_
      refine gf_Se_11 (pc := 37) rfl dk_Se_addMaker_37 ?_
      refine rn_iload (pc := 40) dk_Se_addMaker_40 rfl ?_
      refine rn_iaload (pc := 42) rfl dk_Se_addMaker_42 (fun g3 => ?_)
      refine rn_iconst (pc := 43) (1 : Int32) dk_Se_addMaker_43 cn_i_1 ?_
      refine rn_iload_n (pc := 44) 1 dk_Se_addMaker_44 rfl rfl ?_
      refine rn_ishl (pc := 45) dk_Se_addMaker_45 ?_
      refine rn_ior (pc := 46) dk_Se_addMaker_46 ?_
      refine rn_iastore (pc := 47) rfl dk_Se_addMaker_47 (fun g4 => ?_)
      refine rn_lets (fun s5 => ?_)
      refine rn_aload_n (pc := 48) 0 dk_Se_addMaker_48 rfl rfl rfl ?_
      refine gf_Se_15 (pc := 49) rfl dk_Se_addMaker_49 ?_
      refine rn_iload (pc := 52) dk_Se_addMaker_52 rfl ?_
      refine rn_iload (pc := 54) dk_Se_addMaker_54 rfl ?_
      refine rn_iadd (pc := 56) dk_Se_addMaker_56 ?_
      refine rn_aload_n (pc := 57) 0 dk_Se_addMaker_57 rfl rfl rfl ?_
      refine gf_Se_15 (pc := 58) rfl dk_Se_addMaker_58 ?_
      refine rn_iload (pc := 61) dk_Se_addMaker_61 rfl ?_
      refine rn_iaload (pc := 63) rfl dk_Se_addMaker_63 (fun g6 => ?_)
      refine rn_iload_n (pc := 64) 2 dk_Se_addMaker_64 rfl rfl ?_
      refine rn_iadd (pc := 65) dk_Se_addMaker_65 ?_
      refine rn_iastore (pc := 66) rfl dk_Se_addMaker_66 (fun g7 => ?_)
      refine rn_lets (fun s8 => ?_)
      refine rn_aload_n (pc := 67) 0 dk_Se_addMaker_67 rfl rfl rfl ?_
      refine gf_Se_18 (pc := 68) rfl dk_Se_addMaker_68 ?_
      refine rn_iload (pc := 71) dk_Se_addMaker_71 rfl ?_
      refine rn_iload (pc := 73) dk_Se_addMaker_73 rfl ?_
      refine rn_iadd (pc := 75) dk_Se_addMaker_75 ?_
      refine rn_aload_n (pc := 76) 0 dk_Se_addMaker_76 rfl rfl rfl ?_
      refine gf_Se_18 (pc := 77) rfl dk_Se_addMaker_77 ?_
      refine rn_iload (pc := 80) dk_Se_addMaker_80 rfl ?_
      refine rn_iaload (pc := 82) rfl dk_Se_addMaker_82 (fun g9 => ?_)
      refine rn_iload_n (pc := 83) 3 dk_Se_addMaker_83 rfl rfl ?_
      refine rn_ior (pc := 84) dk_Se_addMaker_84 ?_
      refine rn_iastore (pc := 85) rfl dk_Se_addMaker_85 (fun g10 => ?_)
      refine rn_lets (fun s11 => ?_)
      refine rn_iinc (pc := 86) (1 : Int32) dk_Se_addMaker_86 cn_i_1 rfl rfl rfl ?_
      refine rn_goto (pc := 89) 20 dk_Se_addMaker_89 (by decide) ?_
      exact rn_sub (by rfl) (ih x1 x2 x3 x4 (x5 + (1 : Int32)) s11)
def Se_addMaker (p1 : Int32) (p2 : Int32) (p3 : Int32) (σ : nm_St) : Option (Unit × nm_St) :=
  (if ((σ.1 23 3) * (2 : Int32)) ≤ (256 : Int32) then
    Se_addMaker_l20 (fun (e13 : Int32) (s12 : nm_St) =>
      (nm_let (nm_pI s12 23 3 (e13 * (2 : Int32))) fun s14 =>
      some ((), s14))) 400 p1 p2 p3 (σ.1 23 3) (0 : Int32) σ
  else
    some ((), σ))
set_option maxRecDepth 100000 in
set_option maxHeartbeats 4000000 in
theorem ct_Se_addMaker (X : nm_X) (p1 : Int32) (p2 : Int32) (p3 : Int32) (σ : nm_St) : Ct X mi_Se_addMaker 0 nm_wV [.ref 23, .int p1, .int p2, .int p3] σ (Se_addMaker p1 p2 p3 σ) := by
  refine Ct.of (by decide +kernel) rfl (fun F hF0 => ?_)
  unfold Se_addMaker
  refine rn_aload_n (pc := 0) 0 dk_Se_addMaker_0 rfl rfl rfl ?_
  refine gf_Se_21 (pc := 1) rfl dk_Se_addMaker_1 ?_
  refine rn_istore (pc := 4) dk_Se_addMaker_4 rfl rfl ?_
  refine rn_iload (pc := 6) dk_Se_addMaker_6 rfl ?_
  refine rn_iconst (pc := 8) (2 : Int32) dk_Se_addMaker_8 cn_i_2 ?_
  refine rn_imul (pc := 9) dk_Se_addMaker_9 ?_
  refine rn_sipush (pc := 10) (256 : Int32) dk_Se_addMaker_10 cn_s_256 ?_
  refine rn_icmp_le (pc := 13) 17 dk_Se_addMaker_13 (by decide) (fun c1 => ?_) (fun c1 => ?_)
  · refine rn_iconst (pc := 17) (0 : Int32) dk_Se_addMaker_17 cn_i_0 ?_
    refine rn_istore (pc := 18) dk_Se_addMaker_18 rfl rfl ?_
    refine rn_sub (by rfl) (r_Se_addMaker_l20 X F hF0 _ (fun e13 s12 => ?_) 400 p1 p2 p3 (σ.1 23 3) (0 : Int32) σ)
    refine rn_aload_n (pc := 92) 0 dk_Se_addMaker_92 rfl rfl rfl ?_
    refine rn_iload (pc := 93) dk_Se_addMaker_93 rfl ?_
    refine rn_iconst (pc := 95) (2 : Int32) dk_Se_addMaker_95 cn_i_2 ?_
    refine rn_imul (pc := 96) dk_Se_addMaker_96 ?_
    refine pf_Se_21 (pc := 97) rfl dk_Se_addMaker_97 ?_
    refine rn_lets (fun s14 => ?_)
    exact rn_vret rfl dk_Se_addMaker_100
  · exact rn_vret rfl dk_Se_addMaker_16
theorem dk_Se_layOut_0 : decode mi_Se_layOut.2.1 0 = .ok (.aload_n 0, 1) := by decide +kernel
theorem dk_Se_layOut_1 : decode mi_Se_layOut.2.1 1 = .ok (.iconst 1, 1) := by decide +kernel
theorem dk_Se_layOut_2 : decode mi_Se_layOut.2.1 2 = .ok (.putfield 21, 3) := by decide +kernel
theorem dk_Se_layOut_5 : decode mi_Se_layOut.2.1 5 = .ok (.iconst 0, 1) := by decide +kernel
theorem dk_Se_layOut_6 : decode mi_Se_layOut.2.1 6 = .ok (.istore_n 3, 1) := by decide +kernel
theorem dk_Se_layOut_7 : decode mi_Se_layOut.2.1 7 = .ok (.iload_n 3, 1) := by decide +kernel
theorem dk_Se_layOut_8 : decode mi_Se_layOut.2.1 8 = .ok (.bipush 8, 2) := by decide +kernel
theorem dk_Se_layOut_10 : decode mi_Se_layOut.2.1 10 = .ok (.if_icmp .ge 41, 3) := by decide +kernel
theorem dk_Se_layOut_13 : decode mi_Se_layOut.2.1 13 = .ok (.iload_n 2, 1) := by decide +kernel
theorem dk_Se_layOut_14 : decode mi_Se_layOut.2.1 14 = .ok (.iconst 1, 1) := by decide +kernel
theorem dk_Se_layOut_15 : decode mi_Se_layOut.2.1 15 = .ok (.iload_n 3, 1) := by decide +kernel
theorem dk_Se_layOut_16 : decode mi_Se_layOut.2.1 16 = .ok (.ishl, 1) := by decide +kernel
theorem dk_Se_layOut_17 : decode mi_Se_layOut.2.1 17 = .ok (.iand, 1) := by decide +kernel
theorem dk_Se_layOut_18 : decode mi_Se_layOut.2.1 18 = .ok (.ifCond .eq 27, 3) := by decide +kernel
theorem dk_Se_layOut_21 : decode mi_Se_layOut.2.1 21 = .ok (.aload_n 1, 1) := by decide +kernel
theorem dk_Se_layOut_22 : decode mi_Se_layOut.2.1 22 = .ok (.iload_n 3, 1) := by decide +kernel
theorem dk_Se_layOut_23 : decode mi_Se_layOut.2.1 23 = .ok (.invokevirtual 25, 3) := by decide +kernel
theorem dk_Se_layOut_26 : decode mi_Se_layOut.2.1 26 = .ok (.ifCond .eq 19, 3) := by decide +kernel
theorem dk_Se_layOut_29 : decode mi_Se_layOut.2.1 29 = .ok (.aload_n 0, 1) := by decide +kernel
theorem dk_Se_layOut_30 : decode mi_Se_layOut.2.1 30 = .ok (.iload_n 3, 1) := by decide +kernel
theorem dk_Se_layOut_31 : decode mi_Se_layOut.2.1 31 = .ok (.aload_n 1, 1) := by decide +kernel
theorem dk_Se_layOut_32 : decode mi_Se_layOut.2.1 32 = .ok (.iload_n 3, 1) := by decide +kernel
theorem dk_Se_layOut_33 : decode mi_Se_layOut.2.1 33 = .ok (.invokevirtual 31, 3) := by decide +kernel
theorem dk_Se_layOut_36 : decode mi_Se_layOut.2.1 36 = .ok (.aload_n 1, 1) := by decide +kernel
theorem dk_Se_layOut_37 : decode mi_Se_layOut.2.1 37 = .ok (.getfield 35, 3) := by decide +kernel
theorem dk_Se_layOut_40 : decode mi_Se_layOut.2.1 40 = .ok (.iload_n 3, 1) := by decide +kernel
theorem dk_Se_layOut_41 : decode mi_Se_layOut.2.1 41 = .ok (.iaload, 1) := by decide +kernel
theorem dk_Se_layOut_42 : decode mi_Se_layOut.2.1 42 = .ok (.invokevirtual 38, 3) := by decide +kernel
theorem dk_Se_layOut_45 : decode mi_Se_layOut.2.1 45 = .ok (.iinc 3 1, 3) := by decide +kernel
theorem dk_Se_layOut_48 : decode mi_Se_layOut.2.1 48 = .ok (.goto (-41), 3) := by decide +kernel
theorem dk_Se_layOut_51 : decode mi_Se_layOut.2.1 51 = .ok (.return_, 1) := by decide +kernel
def Se_layOut_l7 (o1 : Nat) (k_51 : nm_St → Option (Unit × nm_St)) : Nat → Int32 → Int32 → nm_St → Option (Unit × nm_St)
  | 0, _, _, _ => none
  | n + 1, x2, x3, σ =>
    (if (8 : Int32) ≤ x3 then
      k_51 σ
    else
      (if (x2 &&& ((1 : Int32) <<< (x3 &&& 31))) = 0 then
        (Se_layOut_l7 o1 k_51 n) x2 (x3 + (1 : Int32)) σ
      else
        ((Is_isMaker o1 x3 σ).bind fun q4 =>
        (if q4.1 = 0 then
          (Se_layOut_l7 o1 k_51 n) x2 (x3 + (1 : Int32)) q4.2
        else
          ((Is_priceOf o1 x3 q4.2).bind fun q6 =>
          (nm_g (nm_in x3 8) (
          ((Se_addMaker x3 q6.1 (q6.2.1 (o1 + 4) x3.toNatClampNeg) q6.2).bind fun q8 =>
          (Se_layOut_l7 o1 k_51 n) x2 (x3 + (1 : Int32)) q8.2))))))))
set_option maxRecDepth 100000 in
set_option maxHeartbeats 4000000 in
theorem r_Se_layOut_l7 (X : nm_X) (F : nm_F) (hF0 : 3 ≤ nm_d F) (o1 : Nat) (ho1 : nm_isl o1 = true) (k_51 : nm_St → Option (Unit × nm_St)) (hk_51 : ∀ (σ : nm_St), Rn X mi_Se_layOut F (nm_Qf X F nm_wV) [] [] 51 σ (k_51 σ)) : ∀ (n : Nat) (x2 : Int32) (x3 : Int32) (σ : nm_St), Rn X mi_Se_layOut F (nm_Qf X F nm_wV) [(0, .ref 23), (1, .ref o1), (2, .int x2), (3, .int x3)] [] 7 σ (Se_layOut_l7 o1 k_51 n x2 x3 σ) := by
  intro n
  induction n with
  | zero =>
    intro x2 x3 σ
    exact rn_none
  | succ n ih =>
    intro x2 x3 σ
    unfold Se_layOut_l7
    refine rn_iload_n (pc := 7) 3 dk_Se_layOut_7 rfl rfl ?_
    refine rn_bipush (pc := 8) (8 : Int32) dk_Se_layOut_8 cn_b_8 ?_
    refine rn_icmp_ge (pc := 10) 51 dk_Se_layOut_10 (by decide) (fun c2 => ?_) (fun c2 => ?_)
    · exact rn_sub (by rfl) (hk_51 σ)
    · refine rn_iload_n (pc := 13) 2 dk_Se_layOut_13 rfl rfl ?_
      refine rn_iconst (pc := 14) (1 : Int32) dk_Se_layOut_14 cn_i_1 ?_
      refine rn_iload_n (pc := 15) 3 dk_Se_layOut_15 rfl rfl ?_
      refine rn_ishl (pc := 16) dk_Se_layOut_16 ?_
      refine rn_iand (pc := 17) dk_Se_layOut_17 ?_
      refine rn_if_eq (pc := 18) 45 dk_Se_layOut_18 (by decide) (fun c3 => ?_) (fun c3 => ?_)
      · refine rn_iinc (pc := 45) (1 : Int32) dk_Se_layOut_45 cn_i_1 rfl rfl rfl ?_
        refine rn_goto (pc := 48) 7 dk_Se_layOut_48 (by decide) ?_
        exact rn_sub (by rfl) (ih x2 (x3 + (1 : Int32)) σ)
      · refine rn_aload_n (pc := 21) 1 dk_Se_layOut_21 rfl rfl (nm_rok_isl ho1) ?_
        refine rn_iload_n (pc := 22) 3 dk_Se_layOut_22 rfl rfl ?_
        refine cl_Se_25 (pc := 23) (As := [.int x3]) (st := []) o1 ho1 rfl (ct_Is_isMaker X o1 ho1 x3 σ) (Nat.le_trans (Nat.le_of_ble_eq_true rfl) hF0) rfl rfl (Nat.le_of_ble_eq_true rfl) dk_Se_layOut_23 (fun q4 => ?_)
        refine rn_if_eq (pc := 26) 45 dk_Se_layOut_26 (by decide) (fun c5 => ?_) (fun c5 => ?_)
        · refine rn_iinc (pc := 45) (1 : Int32) dk_Se_layOut_45 cn_i_1 rfl rfl rfl ?_
          refine rn_goto (pc := 48) 7 dk_Se_layOut_48 (by decide) ?_
          exact rn_sub (by rfl) (ih x2 (x3 + (1 : Int32)) q4.2)
        · refine rn_aload_n (pc := 29) 0 dk_Se_layOut_29 rfl rfl rfl ?_
          refine rn_iload_n (pc := 30) 3 dk_Se_layOut_30 rfl rfl ?_
          refine rn_aload_n (pc := 31) 1 dk_Se_layOut_31 rfl rfl (nm_rok_isl ho1) ?_
          refine rn_iload_n (pc := 32) 3 dk_Se_layOut_32 rfl rfl ?_
          refine cl_Se_31 (pc := 33) (As := [.int x3]) (st := [.int x3, .ref 23]) o1 ho1 rfl (ct_Is_priceOf X o1 ho1 x3 q4.2) (Nat.le_trans (Nat.le_of_ble_eq_true rfl) hF0) rfl rfl (Nat.le_of_ble_eq_true rfl) dk_Se_layOut_33 (fun q6 => ?_)
          refine rn_aload_n (pc := 36) 1 dk_Se_layOut_36 rfl rfl (nm_rok_isl ho1) ?_
          refine gf_Se_35 (pc := 37) o1 ho1 rfl dk_Se_layOut_37 ?_
          refine rn_iload_n (pc := 40) 3 dk_Se_layOut_40 rfl rfl ?_
          refine rn_iaload (pc := 41) (nm_i4 ho1) dk_Se_layOut_41 (fun g7 => ?_)
          refine cl_Se_38 (pc := 42) (As := [.int x3, .int q6.1, .int (q6.2.1 (o1 + 4) x3.toNatClampNeg)]) (st := []) rfl (ct_Se_addMaker X x3 q6.1 (q6.2.1 (o1 + 4) x3.toNatClampNeg) q6.2) (Nat.le_trans (Nat.le_of_ble_eq_true rfl) hF0) rfl rfl (Nat.le_of_ble_eq_true rfl) dk_Se_layOut_42 (fun q8 => ?_)
          refine rn_iinc (pc := 45) (1 : Int32) dk_Se_layOut_45 cn_i_1 rfl rfl rfl ?_
          refine rn_goto (pc := 48) 7 dk_Se_layOut_48 (by decide) ?_
          exact rn_sub (by rfl) (ih x2 (x3 + (1 : Int32)) q8.2)
def Se_layOut (o1 : Nat) (p2 : Int32) (σ : nm_St) : Option (Unit × nm_St) :=
  (nm_let (nm_pI σ 23 3 (1 : Int32)) fun s1 =>
  Se_layOut_l7 o1 (fun (s9 : nm_St) =>
    some ((), s9)) 400 p2 (0 : Int32) s1)
set_option maxRecDepth 100000 in
set_option maxHeartbeats 4000000 in
theorem ct_Se_layOut (X : nm_X) (o1 : Nat) (ho1 : nm_isl o1 = true) (p2 : Int32) (σ : nm_St) : Ct X mi_Se_layOut 3 nm_wV [.ref 23, .ref o1, .int p2] σ (Se_layOut o1 p2 σ) := by
  refine Ct.of (by decide +kernel) rfl (fun F hF0 => ?_)
  unfold Se_layOut
  refine rn_aload_n (pc := 0) 0 dk_Se_layOut_0 rfl rfl rfl ?_
  refine rn_iconst (pc := 1) (1 : Int32) dk_Se_layOut_1 cn_i_1 ?_
  refine pf_Se_21 (pc := 2) rfl dk_Se_layOut_2 ?_
  refine rn_lets (fun s1 => ?_)
  refine rn_iconst (pc := 5) (0 : Int32) dk_Se_layOut_5 cn_i_0 ?_
  refine rn_istore_n (pc := 6) 3 dk_Se_layOut_6 rfl rfl rfl ?_
  refine rn_sub (by rfl) (r_Se_layOut_l7 X F hF0 o1 ho1 _ (fun s9 => ?_) 400 p2 (0 : Int32) s1)
  exact rn_vret rfl dk_Se_layOut_51
theorem dk_Nm_fewest_0 : decode mi_Nm_fewest.2.1 0 = .ok (.aload_n 0, 1) := by decide +kernel
theorem dk_Nm_fewest_1 : decode mi_Nm_fewest.2.1 1 = .ok (.getfield 31, 3) := by decide +kernel
theorem dk_Nm_fewest_4 : decode mi_Nm_fewest.2.1 4 = .ok (.aload_n 0, 1) := by decide +kernel
theorem dk_Nm_fewest_5 : decode mi_Nm_fewest.2.1 5 = .ok (.getfield 18, 3) := by decide +kernel
theorem dk_Nm_fewest_8 : decode mi_Nm_fewest.2.1 8 = .ok (.aload_n 0, 1) := by decide +kernel
theorem dk_Nm_fewest_9 : decode mi_Nm_fewest.2.1 9 = .ok (.getfield 18, 3) := by decide +kernel
theorem dk_Nm_fewest_12 : decode mi_Nm_fewest.2.1 12 = .ok (.iconst 0, 1) := by decide +kernel
theorem dk_Nm_fewest_13 : decode mi_Nm_fewest.2.1 13 = .ok (.invokevirtual 199, 3) := by decide +kernel
theorem dk_Nm_fewest_16 : decode mi_Nm_fewest.2.1 16 = .ok (.invokevirtual 202, 3) := by decide +kernel
theorem dk_Nm_fewest_19 : decode mi_Nm_fewest.2.1 19 = .ok (.aload_n 0, 1) := by decide +kernel
theorem dk_Nm_fewest_20 : decode mi_Nm_fewest.2.1 20 = .ok (.getfield 31, 3) := by decide +kernel
theorem dk_Nm_fewest_23 : decode mi_Nm_fewest.2.1 23 = .ok (.aload_n 0, 1) := by decide +kernel
theorem dk_Nm_fewest_24 : decode mi_Nm_fewest.2.1 24 = .ok (.getfield 18, 3) := by decide +kernel
theorem dk_Nm_fewest_27 : decode mi_Nm_fewest.2.1 27 = .ok (.invokevirtual 196, 3) := by decide +kernel
theorem dk_Nm_fewest_30 : decode mi_Nm_fewest.2.1 30 = .ok (.aload_n 0, 1) := by decide +kernel
theorem dk_Nm_fewest_31 : decode mi_Nm_fewest.2.1 31 = .ok (.getfield 18, 3) := by decide +kernel
theorem dk_Nm_fewest_34 : decode mi_Nm_fewest.2.1 34 = .ok (.invokevirtual 193, 3) := by decide +kernel
theorem dk_Nm_fewest_37 : decode mi_Nm_fewest.2.1 37 = .ok (.invokevirtual 206, 3) := by decide +kernel
theorem dk_Nm_fewest_40 : decode mi_Nm_fewest.2.1 40 = .ok (.ireturn, 1) := by decide +kernel
def Nm_fewest (σ : nm_St) : Option (Int32 × nm_St) :=
  ((Is_thoseAt 2 (0 : Int32) σ).bind fun q1 =>
  ((Se_layOut 2 q1.1 q1.2).bind fun q2 =>
  ((Is_knownAbroad 2 q2.2).bind fun q3 =>
  ((Is_allParts 2 q3.2).bind fun q4 =>
  ((Se_fewestThatMake q3.1 q4.1 q4.2).bind fun q5 =>
  some (q5.1, q5.2))))))
set_option maxRecDepth 100000 in
set_option maxHeartbeats 4000000 in
theorem ct_Nm_fewest (X : nm_X) (σ : nm_St) : Ct X mi_Nm_fewest 4 nm_wI [.ref 0] σ (Nm_fewest σ) := by
  refine Ct.of (by decide +kernel) rfl (fun F hF0 => ?_)
  unfold Nm_fewest
  refine rn_aload_n (pc := 0) 0 dk_Nm_fewest_0 rfl rfl rfl ?_
  refine gf_Nm_31 (pc := 1) rfl dk_Nm_fewest_1 ?_
  refine rn_aload_n (pc := 4) 0 dk_Nm_fewest_4 rfl rfl rfl ?_
  refine gf_Nm_18 (pc := 5) rfl dk_Nm_fewest_5 ?_
  refine rn_aload_n (pc := 8) 0 dk_Nm_fewest_8 rfl rfl rfl ?_
  refine gf_Nm_18 (pc := 9) rfl dk_Nm_fewest_9 ?_
  refine rn_iconst (pc := 12) (0 : Int32) dk_Nm_fewest_12 cn_i_0 ?_
  refine cl_Nm_199 (pc := 13) (As := [.int (0 : Int32)]) (st := [.ref 2, .ref 23]) 2 rfl rfl (ct_Is_thoseAt X 2 rfl (0 : Int32) σ) (Nat.le_trans (Nat.le_of_ble_eq_true rfl) hF0) rfl rfl (Nat.le_of_ble_eq_true rfl) dk_Nm_fewest_13 (fun q1 => ?_)
  refine cl_Nm_202 (pc := 16) (As := [.ref 2, .int q1.1]) (st := []) rfl (ct_Se_layOut X 2 rfl q1.1 q1.2) (Nat.le_trans (Nat.le_of_ble_eq_true rfl) hF0) rfl rfl (Nat.le_of_ble_eq_true rfl) dk_Nm_fewest_16 (fun q2 => ?_)
  refine rn_aload_n (pc := 19) 0 dk_Nm_fewest_19 rfl rfl rfl ?_
  refine gf_Nm_31 (pc := 20) rfl dk_Nm_fewest_20 ?_
  refine rn_aload_n (pc := 23) 0 dk_Nm_fewest_23 rfl rfl rfl ?_
  refine gf_Nm_18 (pc := 24) rfl dk_Nm_fewest_24 ?_
  refine cl_Nm_196 (pc := 27) (As := []) (st := [.ref 23]) 2 rfl rfl (ct_Is_knownAbroad X 2 rfl q2.2) (Nat.le_trans (Nat.le_of_ble_eq_true rfl) hF0) rfl rfl (Nat.le_of_ble_eq_true rfl) dk_Nm_fewest_27 (fun q3 => ?_)
  refine rn_aload_n (pc := 30) 0 dk_Nm_fewest_30 rfl rfl rfl ?_
  refine gf_Nm_18 (pc := 31) rfl dk_Nm_fewest_31 ?_
  refine cl_Nm_193 (pc := 34) (As := []) (st := [.int q3.1, .ref 23]) 2 rfl rfl (ct_Is_allParts X 2 rfl q3.2) (Nat.le_trans (Nat.le_of_ble_eq_true rfl) hF0) rfl rfl (Nat.le_of_ble_eq_true rfl) dk_Nm_fewest_34 (fun q4 => ?_)
  refine cl_Nm_206 (pc := 37) (As := [.int q3.1, .int q4.1]) (st := []) rfl (ct_Se_fewestThatMake X q3.1 q4.1 q4.2) (Nat.le_trans (Nat.le_of_ble_eq_true rfl) hF0) rfl rfl (Nat.le_of_ble_eq_true rfl) dk_Nm_fewest_37 (fun q5 => ?_)
  exact rn_iret rfl dk_Nm_fewest_40
theorem dk_Nm_refuseFar_0 : decode mi_Nm_refuseFar.2.1 0 = .ok (.aload_n 0, 1) := by decide +kernel
theorem dk_Nm_refuseFar_1 : decode mi_Nm_refuseFar.2.1 1 = .ok (.iload_n 1, 1) := by decide +kernel
theorem dk_Nm_refuseFar_2 : decode mi_Nm_refuseFar.2.1 2 = .ok (.invokevirtual 73, 3) := by decide +kernel
theorem dk_Nm_refuseFar_5 : decode mi_Nm_refuseFar.2.1 5 = .ok (.bipush 10, 2) := by decide +kernel
theorem dk_Nm_refuseFar_7 : decode mi_Nm_refuseFar.2.1 7 = .ok (.isub, 1) := by decide +kernel
theorem dk_Nm_refuseFar_8 : decode mi_Nm_refuseFar.2.1 8 = .ok (.ireturn, 1) := by decide +kernel
def Nm_refuseFar (p1 : Int32) (σ : nm_St) : Option (Int32 × nm_St) :=
  ((Nm_refuse p1 σ).bind fun q1 =>
  some ((q1.1 - (10 : Int32)), q1.2))
set_option maxRecDepth 100000 in
set_option maxHeartbeats 4000000 in
theorem ct_Nm_refuseFar (X : nm_X) (p1 : Int32) (σ : nm_St) : Ct X mi_Nm_refuseFar 1 nm_wI [.ref 0, .int p1] σ (Nm_refuseFar p1 σ) := by
  refine Ct.of (by decide +kernel) rfl (fun F hF0 => ?_)
  unfold Nm_refuseFar
  refine rn_aload_n (pc := 0) 0 dk_Nm_refuseFar_0 rfl rfl rfl ?_
  refine rn_iload_n (pc := 1) 1 dk_Nm_refuseFar_1 rfl rfl ?_
  refine cl_Nm_73 (pc := 2) (As := [.int p1]) (st := []) rfl (ct_Nm_refuse X p1 σ) (Nat.le_trans (Nat.le_of_ble_eq_true rfl) hF0) rfl rfl (Nat.le_of_ble_eq_true rfl) dk_Nm_refuseFar_2 (fun q1 => ?_)
  refine rn_bipush (pc := 5) (10 : Int32) dk_Nm_refuseFar_5 cn_b_10 ?_
  refine rn_isub (pc := 7) dk_Nm_refuseFar_7 ?_
  exact rn_iret rfl dk_Nm_refuseFar_8
theorem dk_Se_bitsOf_0 : decode mi_Se_bitsOf.2.1 0 = .ok (.iload_n 1, 1) := by decide +kernel
theorem dk_Se_bitsOf_1 : decode mi_Se_bitsOf.2.1 1 = .ok (.ifCond .lt 20, 3) := by decide +kernel
theorem dk_Se_bitsOf_4 : decode mi_Se_bitsOf.2.1 4 = .ok (.iload_n 1, 1) := by decide +kernel
theorem dk_Se_bitsOf_5 : decode mi_Se_bitsOf.2.1 5 = .ok (.aload_n 0, 1) := by decide +kernel
theorem dk_Se_bitsOf_6 : decode mi_Se_bitsOf.2.1 6 = .ok (.getfield 21, 3) := by decide +kernel
theorem dk_Se_bitsOf_9 : decode mi_Se_bitsOf.2.1 9 = .ok (.if_icmp .ge 12, 3) := by decide +kernel
theorem dk_Se_bitsOf_12 : decode mi_Se_bitsOf.2.1 12 = .ok (.aload_n 0, 1) := by decide +kernel
theorem dk_Se_bitsOf_13 : decode mi_Se_bitsOf.2.1 13 = .ok (.getfield 11, 3) := by decide +kernel
theorem dk_Se_bitsOf_16 : decode mi_Se_bitsOf.2.1 16 = .ok (.iload_n 1, 1) := by decide +kernel
theorem dk_Se_bitsOf_17 : decode mi_Se_bitsOf.2.1 17 = .ok (.iaload, 1) := by decide +kernel
theorem dk_Se_bitsOf_18 : decode mi_Se_bitsOf.2.1 18 = .ok (.goto 4, 3) := by decide +kernel
theorem dk_Se_bitsOf_21 : decode mi_Se_bitsOf.2.1 21 = .ok (.iconst 0, 1) := by decide +kernel
theorem dk_Se_bitsOf_22 : decode mi_Se_bitsOf.2.1 22 = .ok (.ireturn, 1) := by decide +kernel
def Se_bitsOf (p1 : Int32) (σ : nm_St) : Option (Int32 × nm_St) :=
  (if p1 < 0 then
    some ((0 : Int32), σ)
  else
    (if (σ.1 23 3) ≤ p1 then
      some ((0 : Int32), σ)
    else
      (nm_g (nm_in p1 256) (
      some ((σ.1 24 p1.toNatClampNeg), σ)))))
set_option maxRecDepth 100000 in
set_option maxHeartbeats 4000000 in
theorem ct_Se_bitsOf (X : nm_X) (p1 : Int32) (σ : nm_St) : Ct X mi_Se_bitsOf 0 nm_wI [.ref 23, .int p1] σ (Se_bitsOf p1 σ) := by
  refine Ct.of (by decide +kernel) rfl (fun F hF0 => ?_)
  unfold Se_bitsOf
  refine rn_iload_n (pc := 0) 1 dk_Se_bitsOf_0 rfl rfl ?_
  refine rn_if_lt (pc := 1) 21 dk_Se_bitsOf_1 (by decide) (fun c1 => ?_) (fun c1 => ?_)
  · refine rn_iconst (pc := 21) (0 : Int32) dk_Se_bitsOf_21 cn_i_0 ?_
    exact rn_iret rfl dk_Se_bitsOf_22
  · refine rn_iload_n (pc := 4) 1 dk_Se_bitsOf_4 rfl rfl ?_
    refine rn_aload_n (pc := 5) 0 dk_Se_bitsOf_5 rfl rfl rfl ?_
    refine gf_Se_21 (pc := 6) rfl dk_Se_bitsOf_6 ?_
    refine rn_icmp_ge (pc := 9) 21 dk_Se_bitsOf_9 (by decide) (fun c2 => ?_) (fun c2 => ?_)
    · refine rn_iconst (pc := 21) (0 : Int32) dk_Se_bitsOf_21 cn_i_0 ?_
      exact rn_iret rfl dk_Se_bitsOf_22
    · refine rn_aload_n (pc := 12) 0 dk_Se_bitsOf_12 rfl rfl rfl ?_
      refine gf_Se_11 (pc := 13) rfl dk_Se_bitsOf_13 ?_
      refine rn_iload_n (pc := 16) 1 dk_Se_bitsOf_16 rfl rfl ?_
      refine rn_iaload (pc := 17) rfl dk_Se_bitsOf_17 (fun g3 => ?_)
      refine rn_goto (pc := 18) 22 dk_Se_bitsOf_18 (by decide) ?_
      exact rn_iret rfl dk_Se_bitsOf_22
theorem dk_Se_cheapestThatMakes_0 : decode mi_Se_cheapestThatMakes.2.1 0 = .ok (.iconst (-1), 1) := by decide +kernel
theorem dk_Se_cheapestThatMakes_1 : decode mi_Se_cheapestThatMakes.2.1 1 = .ok (.istore_n 3, 1) := by decide +kernel
theorem dk_Se_cheapestThatMakes_2 : decode mi_Se_cheapestThatMakes.2.1 2 = .ok (.iconst 0, 1) := by decide +kernel
theorem dk_Se_cheapestThatMakes_3 : decode mi_Se_cheapestThatMakes.2.1 3 = .ok (.istore 4, 2) := by decide +kernel
theorem dk_Se_cheapestThatMakes_5 : decode mi_Se_cheapestThatMakes.2.1 5 = .ok (.iload 4, 2) := by decide +kernel
theorem dk_Se_cheapestThatMakes_7 : decode mi_Se_cheapestThatMakes.2.1 7 = .ok (.aload_n 0, 1) := by decide +kernel
theorem dk_Se_cheapestThatMakes_8 : decode mi_Se_cheapestThatMakes.2.1 8 = .ok (.getfield 21, 3) := by decide +kernel
theorem dk_Se_cheapestThatMakes_11 : decode mi_Se_cheapestThatMakes.2.1 11 = .ok (.if_icmp .ge 58, 3) := by decide +kernel
theorem dk_Se_cheapestThatMakes_14 : decode mi_Se_cheapestThatMakes.2.1 14 = .ok (.aload_n 0, 1) := by decide +kernel
theorem dk_Se_cheapestThatMakes_15 : decode mi_Se_cheapestThatMakes.2.1 15 = .ok (.getfield 18, 3) := by decide +kernel
theorem dk_Se_cheapestThatMakes_18 : decode mi_Se_cheapestThatMakes.2.1 18 = .ok (.iload 4, 2) := by decide +kernel
theorem dk_Se_cheapestThatMakes_20 : decode mi_Se_cheapestThatMakes.2.1 20 = .ok (.iaload, 1) := by decide +kernel
theorem dk_Se_cheapestThatMakes_21 : decode mi_Se_cheapestThatMakes.2.1 21 = .ok (.iload_n 1, 1) := by decide +kernel
theorem dk_Se_cheapestThatMakes_22 : decode mi_Se_cheapestThatMakes.2.1 22 = .ok (.ior, 1) := by decide +kernel
theorem dk_Se_cheapestThatMakes_23 : decode mi_Se_cheapestThatMakes.2.1 23 = .ok (.iload_n 2, 1) := by decide +kernel
theorem dk_Se_cheapestThatMakes_24 : decode mi_Se_cheapestThatMakes.2.1 24 = .ok (.if_icmp .ne 7, 3) := by decide +kernel
theorem dk_Se_cheapestThatMakes_27 : decode mi_Se_cheapestThatMakes.2.1 27 = .ok (.iconst 1, 1) := by decide +kernel
theorem dk_Se_cheapestThatMakes_28 : decode mi_Se_cheapestThatMakes.2.1 28 = .ok (.goto 4, 3) := by decide +kernel
theorem dk_Se_cheapestThatMakes_31 : decode mi_Se_cheapestThatMakes.2.1 31 = .ok (.iconst 0, 1) := by decide +kernel
theorem dk_Se_cheapestThatMakes_32 : decode mi_Se_cheapestThatMakes.2.1 32 = .ok (.istore 5, 2) := by decide +kernel
theorem dk_Se_cheapestThatMakes_34 : decode mi_Se_cheapestThatMakes.2.1 34 = .ok (.iload 5, 2) := by decide +kernel
theorem dk_Se_cheapestThatMakes_36 : decode mi_Se_cheapestThatMakes.2.1 36 = .ok (.ifCond .eq 27, 3) := by decide +kernel
theorem dk_Se_cheapestThatMakes_39 : decode mi_Se_cheapestThatMakes.2.1 39 = .ok (.iload_n 3, 1) := by decide +kernel
theorem dk_Se_cheapestThatMakes_40 : decode mi_Se_cheapestThatMakes.2.1 40 = .ok (.iconst (-1), 1) := by decide +kernel
theorem dk_Se_cheapestThatMakes_41 : decode mi_Se_cheapestThatMakes.2.1 41 = .ok (.if_icmp .eq 19, 3) := by decide +kernel
theorem dk_Se_cheapestThatMakes_44 : decode mi_Se_cheapestThatMakes.2.1 44 = .ok (.aload_n 0, 1) := by decide +kernel
theorem dk_Se_cheapestThatMakes_45 : decode mi_Se_cheapestThatMakes.2.1 45 = .ok (.getfield 15, 3) := by decide +kernel
theorem dk_Se_cheapestThatMakes_48 : decode mi_Se_cheapestThatMakes.2.1 48 = .ok (.iload 4, 2) := by decide +kernel
theorem dk_Se_cheapestThatMakes_50 : decode mi_Se_cheapestThatMakes.2.1 50 = .ok (.iaload, 1) := by decide +kernel
theorem dk_Se_cheapestThatMakes_51 : decode mi_Se_cheapestThatMakes.2.1 51 = .ok (.aload_n 0, 1) := by decide +kernel
theorem dk_Se_cheapestThatMakes_52 : decode mi_Se_cheapestThatMakes.2.1 52 = .ok (.getfield 15, 3) := by decide +kernel
theorem dk_Se_cheapestThatMakes_55 : decode mi_Se_cheapestThatMakes.2.1 55 = .ok (.iload_n 3, 1) := by decide +kernel
theorem dk_Se_cheapestThatMakes_56 : decode mi_Se_cheapestThatMakes.2.1 56 = .ok (.iaload, 1) := by decide +kernel
theorem dk_Se_cheapestThatMakes_57 : decode mi_Se_cheapestThatMakes.2.1 57 = .ok (.if_icmp .ge 6, 3) := by decide +kernel
theorem dk_Se_cheapestThatMakes_60 : decode mi_Se_cheapestThatMakes.2.1 60 = .ok (.iload 4, 2) := by decide +kernel
theorem dk_Se_cheapestThatMakes_62 : decode mi_Se_cheapestThatMakes.2.1 62 = .ok (.istore_n 3, 1) := by decide +kernel
theorem dk_Se_cheapestThatMakes_63 : decode mi_Se_cheapestThatMakes.2.1 63 = .ok (.iinc 4 1, 3) := by decide +kernel
theorem dk_Se_cheapestThatMakes_66 : decode mi_Se_cheapestThatMakes.2.1 66 = .ok (.goto (-61), 3) := by decide +kernel
theorem dk_Se_cheapestThatMakes_69 : decode mi_Se_cheapestThatMakes.2.1 69 = .ok (.iload_n 3, 1) := by decide +kernel
theorem dk_Se_cheapestThatMakes_70 : decode mi_Se_cheapestThatMakes.2.1 70 = .ok (.ireturn, 1) := by decide +kernel
def Se_cheapestThatMakes_j32 (k_5 : Int32 → Int32 → Int32 → Int32 → nm_St → Option (Int32 × nm_St)) (x1 : Int32) (x2 : Int32) (x3 : Int32) (x4 : Int32) (y0 : Int32) (σ : nm_St) : Option (Int32 × nm_St) :=
  (if y0 = 0 then
    k_5 x1 x2 x3 (x4 + (1 : Int32)) σ
  else
    (if x3 = (-1 : Int32) then
      k_5 x1 x2 x4 (x4 + (1 : Int32)) σ
    else
      (nm_g (nm_in x4 256) (
      (nm_g (nm_in x3 256) (
      (if (σ.1 25 x3.toNatClampNeg) ≤ (σ.1 25 x4.toNatClampNeg) then
        k_5 x1 x2 x3 (x4 + (1 : Int32)) σ
      else
        k_5 x1 x2 x4 (x4 + (1 : Int32)) σ)))))))
set_option maxRecDepth 100000 in
set_option maxHeartbeats 4000000 in
theorem r_Se_cheapestThatMakes_j32 (X : nm_X) (F : nm_F) (hF0 : 0 ≤ nm_d F) (k_5 : Int32 → Int32 → Int32 → Int32 → nm_St → Option (Int32 × nm_St)) (hk_5 : ∀ (x1 : Int32) (x2 : Int32) (x3 : Int32) (x4 : Int32) (σ : nm_St), Rn X mi_Se_cheapestThatMakes F (nm_Qf X F nm_wI) [(0, .ref 23), (1, .int x1), (2, .int x2), (3, .int x3), (4, .int x4)] [] 5 σ (k_5 x1 x2 x3 x4 σ)) (x1 : Int32) (x2 : Int32) (x3 : Int32) (x4 : Int32) (y0 : Int32) (σ : nm_St) : Rn X mi_Se_cheapestThatMakes F (nm_Qf X F nm_wI) [(0, .ref 23), (1, .int x1), (2, .int x2), (3, .int x3), (4, .int x4)] [.int y0] 32 σ (Se_cheapestThatMakes_j32 k_5 x1 x2 x3 x4 y0 σ) := by
  unfold Se_cheapestThatMakes_j32
  refine rn_istore (pc := 32) dk_Se_cheapestThatMakes_32 rfl rfl ?_
  refine rn_iload (pc := 34) dk_Se_cheapestThatMakes_34 rfl ?_
  refine rn_if_eq (pc := 36) 63 dk_Se_cheapestThatMakes_36 (by decide) (fun c4 => ?_) (fun c4 => ?_)
  · refine rn_iinc (pc := 63) (1 : Int32) dk_Se_cheapestThatMakes_63 cn_i_1 rfl rfl rfl ?_
    refine rn_goto (pc := 66) 5 dk_Se_cheapestThatMakes_66 (by decide) ?_
    exact rn_sub (by rfl) (hk_5 x1 x2 x3 (x4 + (1 : Int32)) σ)
  · refine rn_iload_n (pc := 39) 3 dk_Se_cheapestThatMakes_39 rfl rfl ?_
    refine rn_iconst (pc := 40) (-1 : Int32) dk_Se_cheapestThatMakes_40 cn_i_m1 ?_
    refine rn_icmp_eq (pc := 41) 60 dk_Se_cheapestThatMakes_41 (by decide) (fun c5 => ?_) (fun c5 => ?_)
    · refine rn_iload (pc := 60) dk_Se_cheapestThatMakes_60 rfl ?_
      refine rn_istore_n (pc := 62) 3 dk_Se_cheapestThatMakes_62 rfl rfl rfl ?_
      refine rn_iinc (pc := 63) (1 : Int32) dk_Se_cheapestThatMakes_63 cn_i_1 rfl rfl rfl ?_
      refine rn_goto (pc := 66) 5 dk_Se_cheapestThatMakes_66 (by decide) ?_
      exact rn_sub (by rfl) (hk_5 x1 x2 x4 (x4 + (1 : Int32)) σ)
    · refine rn_aload_n (pc := 44) 0 dk_Se_cheapestThatMakes_44 rfl rfl rfl ?_
      refine gf_Se_15 (pc := 45) rfl dk_Se_cheapestThatMakes_45 ?_
      refine rn_iload (pc := 48) dk_Se_cheapestThatMakes_48 rfl ?_
      refine rn_iaload (pc := 50) rfl dk_Se_cheapestThatMakes_50 (fun g6 => ?_)
      refine rn_aload_n (pc := 51) 0 dk_Se_cheapestThatMakes_51 rfl rfl rfl ?_
      refine gf_Se_15 (pc := 52) rfl dk_Se_cheapestThatMakes_52 ?_
      refine rn_iload_n (pc := 55) 3 dk_Se_cheapestThatMakes_55 rfl rfl ?_
      refine rn_iaload (pc := 56) rfl dk_Se_cheapestThatMakes_56 (fun g7 => ?_)
      refine rn_icmp_ge (pc := 57) 63 dk_Se_cheapestThatMakes_57 (by decide) (fun c8 => ?_) (fun c8 => ?_)
      · refine rn_iinc (pc := 63) (1 : Int32) dk_Se_cheapestThatMakes_63 cn_i_1 rfl rfl rfl ?_
        refine rn_goto (pc := 66) 5 dk_Se_cheapestThatMakes_66 (by decide) ?_
        exact rn_sub (by rfl) (hk_5 x1 x2 x3 (x4 + (1 : Int32)) σ)
      · refine rn_iload (pc := 60) dk_Se_cheapestThatMakes_60 rfl ?_
        refine rn_istore_n (pc := 62) 3 dk_Se_cheapestThatMakes_62 rfl rfl rfl ?_
        refine rn_iinc (pc := 63) (1 : Int32) dk_Se_cheapestThatMakes_63 cn_i_1 rfl rfl rfl ?_
        refine rn_goto (pc := 66) 5 dk_Se_cheapestThatMakes_66 (by decide) ?_
        exact rn_sub (by rfl) (hk_5 x1 x2 x4 (x4 + (1 : Int32)) σ)
def Se_cheapestThatMakes_l5 (k_69 : Int32 → nm_St → Option (Int32 × nm_St)) : Nat → Int32 → Int32 → Int32 → Int32 → nm_St → Option (Int32 × nm_St)
  | 0, _, _, _, _, _ => none
  | n + 1, x1, x2, x3, x4, σ =>
    (if (σ.1 23 3) ≤ x4 then
      k_69 x3 σ
    else
      (nm_g (nm_in x4 256) (
      (if ((σ.1 26 x4.toNatClampNeg) ||| x1) = x2 then
        Se_cheapestThatMakes_j32 (Se_cheapestThatMakes_l5 k_69 n) x1 x2 x3 x4 (1 : Int32) σ
      else
        Se_cheapestThatMakes_j32 (Se_cheapestThatMakes_l5 k_69 n) x1 x2 x3 x4 (0 : Int32) σ))))
set_option maxRecDepth 100000 in
set_option maxHeartbeats 4000000 in
theorem r_Se_cheapestThatMakes_l5 (X : nm_X) (F : nm_F) (hF0 : 0 ≤ nm_d F) (k_69 : Int32 → nm_St → Option (Int32 × nm_St)) (hk_69 : ∀ (x3 : Int32) (σ : nm_St), Rn X mi_Se_cheapestThatMakes F (nm_Qf X F nm_wI) [(3, .int x3)] [] 69 σ (k_69 x3 σ)) : ∀ (n : Nat) (x1 : Int32) (x2 : Int32) (x3 : Int32) (x4 : Int32) (σ : nm_St), Rn X mi_Se_cheapestThatMakes F (nm_Qf X F nm_wI) [(0, .ref 23), (1, .int x1), (2, .int x2), (3, .int x3), (4, .int x4)] [] 5 σ (Se_cheapestThatMakes_l5 k_69 n x1 x2 x3 x4 σ) := by
  intro n
  induction n with
  | zero =>
    intro x1 x2 x3 x4 σ
    exact rn_none
  | succ n ih =>
    intro x1 x2 x3 x4 σ
    unfold Se_cheapestThatMakes_l5
    refine rn_iload (pc := 5) dk_Se_cheapestThatMakes_5 rfl ?_
    refine rn_aload_n (pc := 7) 0 dk_Se_cheapestThatMakes_7 rfl rfl rfl ?_
    refine gf_Se_21 (pc := 8) rfl dk_Se_cheapestThatMakes_8 ?_
    refine rn_icmp_ge (pc := 11) 69 dk_Se_cheapestThatMakes_11 (by decide) (fun c1 => ?_) (fun c1 => ?_)
    · exact rn_sub (by rfl) (hk_69 x3 σ)
    · refine rn_aload_n (pc := 14) 0 dk_Se_cheapestThatMakes_14 rfl rfl rfl ?_
      refine gf_Se_18 (pc := 15) rfl dk_Se_cheapestThatMakes_15 ?_
      refine rn_iload (pc := 18) dk_Se_cheapestThatMakes_18 rfl ?_
      refine rn_iaload (pc := 20) rfl dk_Se_cheapestThatMakes_20 (fun g2 => ?_)
      refine rn_iload_n (pc := 21) 1 dk_Se_cheapestThatMakes_21 rfl rfl ?_
      refine rn_ior (pc := 22) dk_Se_cheapestThatMakes_22 ?_
      refine rn_iload_n (pc := 23) 2 dk_Se_cheapestThatMakes_23 rfl rfl ?_
      refine rn_icmp_ne (pc := 24) 31 dk_Se_cheapestThatMakes_24 (by decide) (fun c3 => ?_) (fun c3 => ?_)
      · refine rn_iconst (pc := 31) (0 : Int32) dk_Se_cheapestThatMakes_31 cn_i_0 ?_
        exact rn_sub (by rfl) (r_Se_cheapestThatMakes_j32 X F hF0 _ ih x1 x2 x3 x4 (0 : Int32) σ)
      · refine rn_iconst (pc := 27) (1 : Int32) dk_Se_cheapestThatMakes_27 cn_i_1 ?_
        refine rn_goto (pc := 28) 32 dk_Se_cheapestThatMakes_28 (by decide) ?_
        exact rn_sub (by rfl) (r_Se_cheapestThatMakes_j32 X F hF0 _ ih x1 x2 x3 x4 (1 : Int32) σ)
def Se_cheapestThatMakes (p1 : Int32) (p2 : Int32) (σ : nm_St) : Option (Int32 × nm_St) :=
  Se_cheapestThatMakes_l5 (fun (e10 : Int32) (s9 : nm_St) =>
    some (e10, s9)) 400 p1 p2 (-1 : Int32) (0 : Int32) σ
set_option maxRecDepth 100000 in
set_option maxHeartbeats 4000000 in
theorem ct_Se_cheapestThatMakes (X : nm_X) (p1 : Int32) (p2 : Int32) (σ : nm_St) : Ct X mi_Se_cheapestThatMakes 0 nm_wI [.ref 23, .int p1, .int p2] σ (Se_cheapestThatMakes p1 p2 σ) := by
  refine Ct.of (by decide +kernel) rfl (fun F hF0 => ?_)
  unfold Se_cheapestThatMakes
  refine rn_iconst (pc := 0) (-1 : Int32) dk_Se_cheapestThatMakes_0 cn_i_m1 ?_
  refine rn_istore_n (pc := 1) 3 dk_Se_cheapestThatMakes_1 rfl rfl rfl ?_
  refine rn_iconst (pc := 2) (0 : Int32) dk_Se_cheapestThatMakes_2 cn_i_0 ?_
  refine rn_istore (pc := 3) dk_Se_cheapestThatMakes_3 rfl rfl ?_
  refine rn_sub (by rfl) (r_Se_cheapestThatMakes_l5 X F hF0 _ (fun e10 s9 => ?_) 400 p1 p2 (-1 : Int32) (0 : Int32) σ)
  refine rn_iload_n (pc := 69) 3 dk_Se_cheapestThatMakes_69 rfl rfl ?_
  exact rn_iret rfl dk_Se_cheapestThatMakes_70
theorem dk_Se_costOf_0 : decode mi_Se_costOf.2.1 0 = .ok (.iload_n 1, 1) := by decide +kernel
theorem dk_Se_costOf_1 : decode mi_Se_costOf.2.1 1 = .ok (.ifCond .lt 20, 3) := by decide +kernel
theorem dk_Se_costOf_4 : decode mi_Se_costOf.2.1 4 = .ok (.iload_n 1, 1) := by decide +kernel
theorem dk_Se_costOf_5 : decode mi_Se_costOf.2.1 5 = .ok (.aload_n 0, 1) := by decide +kernel
theorem dk_Se_costOf_6 : decode mi_Se_costOf.2.1 6 = .ok (.getfield 21, 3) := by decide +kernel
theorem dk_Se_costOf_9 : decode mi_Se_costOf.2.1 9 = .ok (.if_icmp .ge 12, 3) := by decide +kernel
theorem dk_Se_costOf_12 : decode mi_Se_costOf.2.1 12 = .ok (.aload_n 0, 1) := by decide +kernel
theorem dk_Se_costOf_13 : decode mi_Se_costOf.2.1 13 = .ok (.getfield 15, 3) := by decide +kernel
theorem dk_Se_costOf_16 : decode mi_Se_costOf.2.1 16 = .ok (.iload_n 1, 1) := by decide +kernel
theorem dk_Se_costOf_17 : decode mi_Se_costOf.2.1 17 = .ok (.iaload, 1) := by decide +kernel
theorem dk_Se_costOf_18 : decode mi_Se_costOf.2.1 18 = .ok (.goto 4, 3) := by decide +kernel
theorem dk_Se_costOf_21 : decode mi_Se_costOf.2.1 21 = .ok (.iconst 0, 1) := by decide +kernel
theorem dk_Se_costOf_22 : decode mi_Se_costOf.2.1 22 = .ok (.ireturn, 1) := by decide +kernel
def Se_costOf (p1 : Int32) (σ : nm_St) : Option (Int32 × nm_St) :=
  (if p1 < 0 then
    some ((0 : Int32), σ)
  else
    (if (σ.1 23 3) ≤ p1 then
      some ((0 : Int32), σ)
    else
      (nm_g (nm_in p1 256) (
      some ((σ.1 25 p1.toNatClampNeg), σ)))))
set_option maxRecDepth 100000 in
set_option maxHeartbeats 4000000 in
theorem ct_Se_costOf (X : nm_X) (p1 : Int32) (σ : nm_St) : Ct X mi_Se_costOf 0 nm_wI [.ref 23, .int p1] σ (Se_costOf p1 σ) := by
  refine Ct.of (by decide +kernel) rfl (fun F hF0 => ?_)
  unfold Se_costOf
  refine rn_iload_n (pc := 0) 1 dk_Se_costOf_0 rfl rfl ?_
  refine rn_if_lt (pc := 1) 21 dk_Se_costOf_1 (by decide) (fun c1 => ?_) (fun c1 => ?_)
  · refine rn_iconst (pc := 21) (0 : Int32) dk_Se_costOf_21 cn_i_0 ?_
    exact rn_iret rfl dk_Se_costOf_22
  · refine rn_iload_n (pc := 4) 1 dk_Se_costOf_4 rfl rfl ?_
    refine rn_aload_n (pc := 5) 0 dk_Se_costOf_5 rfl rfl rfl ?_
    refine gf_Se_21 (pc := 6) rfl dk_Se_costOf_6 ?_
    refine rn_icmp_ge (pc := 9) 21 dk_Se_costOf_9 (by decide) (fun c2 => ?_) (fun c2 => ?_)
    · refine rn_iconst (pc := 21) (0 : Int32) dk_Se_costOf_21 cn_i_0 ?_
      exact rn_iret rfl dk_Se_costOf_22
    · refine rn_aload_n (pc := 12) 0 dk_Se_costOf_12 rfl rfl rfl ?_
      refine gf_Se_15 (pc := 13) rfl dk_Se_costOf_13 ?_
      refine rn_iload_n (pc := 16) 1 dk_Se_costOf_16 rfl rfl ?_
      refine rn_iaload (pc := 17) rfl dk_Se_costOf_17 (fun g3 => ?_)
      refine rn_goto (pc := 18) 22 dk_Se_costOf_18 (by decide) ?_
      exact rn_iret rfl dk_Se_costOf_22
theorem dk_Nm_cheapest_0 : decode mi_Nm_cheapest.2.1 0 = .ok (.iload_n 1, 1) := by decide +kernel
theorem dk_Nm_cheapest_1 : decode mi_Nm_cheapest.2.1 1 = .ok (.iconst 0, 1) := by decide +kernel
theorem dk_Nm_cheapest_2 : decode mi_Nm_cheapest.2.1 2 = .ok (.iconst 2, 1) := by decide +kernel
theorem dk_Nm_cheapest_3 : decode mi_Nm_cheapest.2.1 3 = .ok (.invokestatic 144, 3) := by decide +kernel
theorem dk_Nm_cheapest_6 : decode mi_Nm_cheapest.2.1 6 = .ok (.ifCond .ne 10, 3) := by decide +kernel
theorem dk_Nm_cheapest_9 : decode mi_Nm_cheapest.2.1 9 = .ok (.aload_n 0, 1) := by decide +kernel
theorem dk_Nm_cheapest_10 : decode mi_Nm_cheapest.2.1 10 = .ok (.bipush (-5), 2) := by decide +kernel
theorem dk_Nm_cheapest_12 : decode mi_Nm_cheapest.2.1 12 = .ok (.invokevirtual 209, 3) := by decide +kernel
theorem dk_Nm_cheapest_15 : decode mi_Nm_cheapest.2.1 15 = .ok (.ireturn, 1) := by decide +kernel
theorem dk_Nm_cheapest_16 : decode mi_Nm_cheapest.2.1 16 = .ok (.aload_n 0, 1) := by decide +kernel
theorem dk_Nm_cheapest_17 : decode mi_Nm_cheapest.2.1 17 = .ok (.getfield 31, 3) := by decide +kernel
theorem dk_Nm_cheapest_20 : decode mi_Nm_cheapest.2.1 20 = .ok (.aload_n 0, 1) := by decide +kernel
theorem dk_Nm_cheapest_21 : decode mi_Nm_cheapest.2.1 21 = .ok (.getfield 18, 3) := by decide +kernel
theorem dk_Nm_cheapest_24 : decode mi_Nm_cheapest.2.1 24 = .ok (.aload_n 0, 1) := by decide +kernel
theorem dk_Nm_cheapest_25 : decode mi_Nm_cheapest.2.1 25 = .ok (.getfield 18, 3) := by decide +kernel
theorem dk_Nm_cheapest_28 : decode mi_Nm_cheapest.2.1 28 = .ok (.iconst 0, 1) := by decide +kernel
theorem dk_Nm_cheapest_29 : decode mi_Nm_cheapest.2.1 29 = .ok (.invokevirtual 199, 3) := by decide +kernel
theorem dk_Nm_cheapest_32 : decode mi_Nm_cheapest.2.1 32 = .ok (.invokevirtual 202, 3) := by decide +kernel
theorem dk_Nm_cheapest_35 : decode mi_Nm_cheapest.2.1 35 = .ok (.aload_n 0, 1) := by decide +kernel
theorem dk_Nm_cheapest_36 : decode mi_Nm_cheapest.2.1 36 = .ok (.getfield 31, 3) := by decide +kernel
theorem dk_Nm_cheapest_39 : decode mi_Nm_cheapest.2.1 39 = .ok (.aload_n 0, 1) := by decide +kernel
theorem dk_Nm_cheapest_40 : decode mi_Nm_cheapest.2.1 40 = .ok (.getfield 18, 3) := by decide +kernel
theorem dk_Nm_cheapest_43 : decode mi_Nm_cheapest.2.1 43 = .ok (.invokevirtual 196, 3) := by decide +kernel
theorem dk_Nm_cheapest_46 : decode mi_Nm_cheapest.2.1 46 = .ok (.aload_n 0, 1) := by decide +kernel
theorem dk_Nm_cheapest_47 : decode mi_Nm_cheapest.2.1 47 = .ok (.getfield 18, 3) := by decide +kernel
theorem dk_Nm_cheapest_50 : decode mi_Nm_cheapest.2.1 50 = .ok (.invokevirtual 193, 3) := by decide +kernel
theorem dk_Nm_cheapest_53 : decode mi_Nm_cheapest.2.1 53 = .ok (.invokevirtual 212, 3) := by decide +kernel
theorem dk_Nm_cheapest_56 : decode mi_Nm_cheapest.2.1 56 = .ok (.istore_n 2, 1) := by decide +kernel
theorem dk_Nm_cheapest_57 : decode mi_Nm_cheapest.2.1 57 = .ok (.iload_n 1, 1) := by decide +kernel
theorem dk_Nm_cheapest_58 : decode mi_Nm_cheapest.2.1 58 = .ok (.ifCond .ne 21, 3) := by decide +kernel
theorem dk_Nm_cheapest_61 : decode mi_Nm_cheapest.2.1 61 = .ok (.iload_n 2, 1) := by decide +kernel
theorem dk_Nm_cheapest_62 : decode mi_Nm_cheapest.2.1 62 = .ok (.iconst (-1), 1) := by decide +kernel
theorem dk_Nm_cheapest_63 : decode mi_Nm_cheapest.2.1 63 = .ok (.if_icmp .ne 7, 3) := by decide +kernel
theorem dk_Nm_cheapest_66 : decode mi_Nm_cheapest.2.1 66 = .ok (.iconst (-1), 1) := by decide +kernel
theorem dk_Nm_cheapest_67 : decode mi_Nm_cheapest.2.1 67 = .ok (.goto 11, 3) := by decide +kernel
theorem dk_Nm_cheapest_70 : decode mi_Nm_cheapest.2.1 70 = .ok (.aload_n 0, 1) := by decide +kernel
theorem dk_Nm_cheapest_71 : decode mi_Nm_cheapest.2.1 71 = .ok (.getfield 31, 3) := by decide +kernel
theorem dk_Nm_cheapest_74 : decode mi_Nm_cheapest.2.1 74 = .ok (.iload_n 2, 1) := by decide +kernel
theorem dk_Nm_cheapest_75 : decode mi_Nm_cheapest.2.1 75 = .ok (.invokevirtual 215, 3) := by decide +kernel
theorem dk_Nm_cheapest_78 : decode mi_Nm_cheapest.2.1 78 = .ok (.ireturn, 1) := by decide +kernel
theorem dk_Nm_cheapest_79 : decode mi_Nm_cheapest.2.1 79 = .ok (.iload_n 1, 1) := by decide +kernel
theorem dk_Nm_cheapest_80 : decode mi_Nm_cheapest.2.1 80 = .ok (.iconst 1, 1) := by decide +kernel
theorem dk_Nm_cheapest_81 : decode mi_Nm_cheapest.2.1 81 = .ok (.if_icmp .ne 21, 3) := by decide +kernel
theorem dk_Nm_cheapest_84 : decode mi_Nm_cheapest.2.1 84 = .ok (.iload_n 2, 1) := by decide +kernel
theorem dk_Nm_cheapest_85 : decode mi_Nm_cheapest.2.1 85 = .ok (.iconst (-1), 1) := by decide +kernel
theorem dk_Nm_cheapest_86 : decode mi_Nm_cheapest.2.1 86 = .ok (.if_icmp .ne 7, 3) := by decide +kernel
theorem dk_Nm_cheapest_89 : decode mi_Nm_cheapest.2.1 89 = .ok (.iconst (-1), 1) := by decide +kernel
theorem dk_Nm_cheapest_90 : decode mi_Nm_cheapest.2.1 90 = .ok (.goto 11, 3) := by decide +kernel
theorem dk_Nm_cheapest_93 : decode mi_Nm_cheapest.2.1 93 = .ok (.aload_n 0, 1) := by decide +kernel
theorem dk_Nm_cheapest_94 : decode mi_Nm_cheapest.2.1 94 = .ok (.getfield 31, 3) := by decide +kernel
theorem dk_Nm_cheapest_97 : decode mi_Nm_cheapest.2.1 97 = .ok (.iload_n 2, 1) := by decide +kernel
theorem dk_Nm_cheapest_98 : decode mi_Nm_cheapest.2.1 98 = .ok (.invokevirtual 218, 3) := by decide +kernel
theorem dk_Nm_cheapest_101 : decode mi_Nm_cheapest.2.1 101 = .ok (.ireturn, 1) := by decide +kernel
theorem dk_Nm_cheapest_102 : decode mi_Nm_cheapest.2.1 102 = .ok (.iload_n 2, 1) := by decide +kernel
theorem dk_Nm_cheapest_103 : decode mi_Nm_cheapest.2.1 103 = .ok (.iconst (-1), 1) := by decide +kernel
theorem dk_Nm_cheapest_104 : decode mi_Nm_cheapest.2.1 104 = .ok (.if_icmp .eq 25, 3) := by decide +kernel
theorem dk_Nm_cheapest_107 : decode mi_Nm_cheapest.2.1 107 = .ok (.aload_n 0, 1) := by decide +kernel
theorem dk_Nm_cheapest_108 : decode mi_Nm_cheapest.2.1 108 = .ok (.getfield 31, 3) := by decide +kernel
theorem dk_Nm_cheapest_111 : decode mi_Nm_cheapest.2.1 111 = .ok (.iload_n 2, 1) := by decide +kernel
theorem dk_Nm_cheapest_112 : decode mi_Nm_cheapest.2.1 112 = .ok (.invokevirtual 218, 3) := by decide +kernel
theorem dk_Nm_cheapest_115 : decode mi_Nm_cheapest.2.1 115 = .ok (.aload_n 0, 1) := by decide +kernel
theorem dk_Nm_cheapest_116 : decode mi_Nm_cheapest.2.1 116 = .ok (.getfield 18, 3) := by decide +kernel
theorem dk_Nm_cheapest_119 : decode mi_Nm_cheapest.2.1 119 = .ok (.getfield 171, 3) := by decide +kernel
theorem dk_Nm_cheapest_122 : decode mi_Nm_cheapest.2.1 122 = .ok (.if_icmp .gt 7, 3) := by decide +kernel
theorem dk_Nm_cheapest_125 : decode mi_Nm_cheapest.2.1 125 = .ok (.iconst 1, 1) := by decide +kernel
theorem dk_Nm_cheapest_126 : decode mi_Nm_cheapest.2.1 126 = .ok (.goto 4, 3) := by decide +kernel
theorem dk_Nm_cheapest_129 : decode mi_Nm_cheapest.2.1 129 = .ok (.iconst 0, 1) := by decide +kernel
theorem dk_Nm_cheapest_130 : decode mi_Nm_cheapest.2.1 130 = .ok (.ireturn, 1) := by decide +kernel
def Nm_cheapest (p1 : Int32) (σ : nm_St) : Option (Int32 × nm_St) :=
  ((Nm_isWithin p1 (0 : Int32) (2 : Int32) σ).bind fun q1 =>
  (if q1.1 = 0 then
    ((Nm_refuseFar (-5 : Int32) q1.2).bind fun q17 =>
    some (q17.1, q17.2))
  else
    ((Is_thoseAt 2 (0 : Int32) q1.2).bind fun q3 =>
    ((Se_layOut 2 q3.1 q3.2).bind fun q4 =>
    ((Is_knownAbroad 2 q4.2).bind fun q5 =>
    ((Is_allParts 2 q5.2).bind fun q6 =>
    ((Se_cheapestThatMakes q5.1 q6.1 q6.2).bind fun q7 =>
    (if p1 = 0 then
      (if q7.1 = (-1 : Int32) then
        some ((-1 : Int32), q7.2)
      else
        ((Se_bitsOf q7.1 q7.2).bind fun q16 =>
        some (q16.1, q16.2)))
    else
      (if p1 = (1 : Int32) then
        (if q7.1 = (-1 : Int32) then
          some ((-1 : Int32), q7.2)
        else
          ((Se_costOf q7.1 q7.2).bind fun q14 =>
          some (q14.1, q14.2)))
      else
        (if q7.1 = (-1 : Int32) then
          some ((0 : Int32), q7.2)
        else
          ((Se_costOf q7.1 q7.2).bind fun q11 =>
          (if (q11.2.1 2 9) < q11.1 then
            some ((0 : Int32), q11.2)
          else
            some ((1 : Int32), q11.2)))))))))))))
set_option maxRecDepth 100000 in
set_option maxHeartbeats 4000000 in
theorem ct_Nm_cheapest (X : nm_X) (p1 : Int32) (σ : nm_St) : Ct X mi_Nm_cheapest 4 nm_wI [.ref 0, .int p1] σ (Nm_cheapest p1 σ) := by
  refine Ct.of (by decide +kernel) rfl (fun F hF0 => ?_)
  unfold Nm_cheapest
  refine rn_iload_n (pc := 0) 1 dk_Nm_cheapest_0 rfl rfl ?_
  refine rn_iconst (pc := 1) (0 : Int32) dk_Nm_cheapest_1 cn_i_0 ?_
  refine rn_iconst (pc := 2) (2 : Int32) dk_Nm_cheapest_2 cn_i_2 ?_
  refine cl_Nm_144 (pc := 3) (As := [.int p1, .int (0 : Int32), .int (2 : Int32)]) (st := []) rfl (ct_Nm_isWithin X p1 (0 : Int32) (2 : Int32) σ) (Nat.le_trans (Nat.le_of_ble_eq_true rfl) hF0) rfl rfl (Nat.le_of_ble_eq_true rfl) dk_Nm_cheapest_3 (fun q1 => ?_)
  refine rn_if_ne (pc := 6) 16 dk_Nm_cheapest_6 (by decide) (fun c2 => ?_) (fun c2 => ?_)
  · refine rn_aload_n (pc := 16) 0 dk_Nm_cheapest_16 rfl rfl rfl ?_
    refine gf_Nm_31 (pc := 17) rfl dk_Nm_cheapest_17 ?_
    refine rn_aload_n (pc := 20) 0 dk_Nm_cheapest_20 rfl rfl rfl ?_
    refine gf_Nm_18 (pc := 21) rfl dk_Nm_cheapest_21 ?_
    refine rn_aload_n (pc := 24) 0 dk_Nm_cheapest_24 rfl rfl rfl ?_
    refine gf_Nm_18 (pc := 25) rfl dk_Nm_cheapest_25 ?_
    refine rn_iconst (pc := 28) (0 : Int32) dk_Nm_cheapest_28 cn_i_0 ?_
    refine cl_Nm_199 (pc := 29) (As := [.int (0 : Int32)]) (st := [.ref 2, .ref 23]) 2 rfl rfl (ct_Is_thoseAt X 2 rfl (0 : Int32) q1.2) (Nat.le_trans (Nat.le_of_ble_eq_true rfl) hF0) rfl rfl (Nat.le_of_ble_eq_true rfl) dk_Nm_cheapest_29 (fun q3 => ?_)
    refine cl_Nm_202 (pc := 32) (As := [.ref 2, .int q3.1]) (st := []) rfl (ct_Se_layOut X 2 rfl q3.1 q3.2) (Nat.le_trans (Nat.le_of_ble_eq_true rfl) hF0) rfl rfl (Nat.le_of_ble_eq_true rfl) dk_Nm_cheapest_32 (fun q4 => ?_)
    refine rn_aload_n (pc := 35) 0 dk_Nm_cheapest_35 rfl rfl rfl ?_
    refine gf_Nm_31 (pc := 36) rfl dk_Nm_cheapest_36 ?_
    refine rn_aload_n (pc := 39) 0 dk_Nm_cheapest_39 rfl rfl rfl ?_
    refine gf_Nm_18 (pc := 40) rfl dk_Nm_cheapest_40 ?_
    refine cl_Nm_196 (pc := 43) (As := []) (st := [.ref 23]) 2 rfl rfl (ct_Is_knownAbroad X 2 rfl q4.2) (Nat.le_trans (Nat.le_of_ble_eq_true rfl) hF0) rfl rfl (Nat.le_of_ble_eq_true rfl) dk_Nm_cheapest_43 (fun q5 => ?_)
    refine rn_aload_n (pc := 46) 0 dk_Nm_cheapest_46 rfl rfl rfl ?_
    refine gf_Nm_18 (pc := 47) rfl dk_Nm_cheapest_47 ?_
    refine cl_Nm_193 (pc := 50) (As := []) (st := [.int q5.1, .ref 23]) 2 rfl rfl (ct_Is_allParts X 2 rfl q5.2) (Nat.le_trans (Nat.le_of_ble_eq_true rfl) hF0) rfl rfl (Nat.le_of_ble_eq_true rfl) dk_Nm_cheapest_50 (fun q6 => ?_)
    refine cl_Nm_212 (pc := 53) (As := [.int q5.1, .int q6.1]) (st := []) rfl (ct_Se_cheapestThatMakes X q5.1 q6.1 q6.2) (Nat.le_trans (Nat.le_of_ble_eq_true rfl) hF0) rfl rfl (Nat.le_of_ble_eq_true rfl) dk_Nm_cheapest_53 (fun q7 => ?_)
    refine rn_istore_n (pc := 56) 2 dk_Nm_cheapest_56 rfl rfl rfl ?_
    refine rn_iload_n (pc := 57) 1 dk_Nm_cheapest_57 rfl rfl ?_
    refine rn_if_ne (pc := 58) 79 dk_Nm_cheapest_58 (by decide) (fun c8 => ?_) (fun c8 => ?_)
    · refine rn_iload_n (pc := 79) 1 dk_Nm_cheapest_79 rfl rfl ?_
      refine rn_iconst (pc := 80) (1 : Int32) dk_Nm_cheapest_80 cn_i_1 ?_
      refine rn_icmp_ne (pc := 81) 102 dk_Nm_cheapest_81 (by decide) (fun c9 => ?_) (fun c9 => ?_)
      · refine rn_iload_n (pc := 102) 2 dk_Nm_cheapest_102 rfl rfl ?_
        refine rn_iconst (pc := 103) (-1 : Int32) dk_Nm_cheapest_103 cn_i_m1 ?_
        refine rn_icmp_eq (pc := 104) 129 dk_Nm_cheapest_104 (by decide) (fun c10 => ?_) (fun c10 => ?_)
        · refine rn_iconst (pc := 129) (0 : Int32) dk_Nm_cheapest_129 cn_i_0 ?_
          exact rn_iret rfl dk_Nm_cheapest_130
        · refine rn_aload_n (pc := 107) 0 dk_Nm_cheapest_107 rfl rfl rfl ?_
          refine gf_Nm_31 (pc := 108) rfl dk_Nm_cheapest_108 ?_
          refine rn_iload_n (pc := 111) 2 dk_Nm_cheapest_111 rfl rfl ?_
          refine cl_Nm_218 (pc := 112) (As := [.int q7.1]) (st := []) rfl (ct_Se_costOf X q7.1 q7.2) (Nat.le_trans (Nat.le_of_ble_eq_true rfl) hF0) rfl rfl (Nat.le_of_ble_eq_true rfl) dk_Nm_cheapest_112 (fun q11 => ?_)
          refine rn_aload_n (pc := 115) 0 dk_Nm_cheapest_115 rfl rfl rfl ?_
          refine gf_Nm_18 (pc := 116) rfl dk_Nm_cheapest_116 ?_
          refine gf_Nm_171 (pc := 119) 2 rfl rfl dk_Nm_cheapest_119 ?_
          refine rn_icmp_gt (pc := 122) 129 dk_Nm_cheapest_122 (by decide) (fun c12 => ?_) (fun c12 => ?_)
          · refine rn_iconst (pc := 129) (0 : Int32) dk_Nm_cheapest_129 cn_i_0 ?_
            exact rn_iret rfl dk_Nm_cheapest_130
          · refine rn_iconst (pc := 125) (1 : Int32) dk_Nm_cheapest_125 cn_i_1 ?_
            refine rn_goto (pc := 126) 130 dk_Nm_cheapest_126 (by decide) ?_
            exact rn_iret rfl dk_Nm_cheapest_130
      · refine rn_iload_n (pc := 84) 2 dk_Nm_cheapest_84 rfl rfl ?_
        refine rn_iconst (pc := 85) (-1 : Int32) dk_Nm_cheapest_85 cn_i_m1 ?_
        refine rn_icmp_ne (pc := 86) 93 dk_Nm_cheapest_86 (by decide) (fun c13 => ?_) (fun c13 => ?_)
        · refine rn_aload_n (pc := 93) 0 dk_Nm_cheapest_93 rfl rfl rfl ?_
          refine gf_Nm_31 (pc := 94) rfl dk_Nm_cheapest_94 ?_
          refine rn_iload_n (pc := 97) 2 dk_Nm_cheapest_97 rfl rfl ?_
          refine cl_Nm_218 (pc := 98) (As := [.int q7.1]) (st := []) rfl (ct_Se_costOf X q7.1 q7.2) (Nat.le_trans (Nat.le_of_ble_eq_true rfl) hF0) rfl rfl (Nat.le_of_ble_eq_true rfl) dk_Nm_cheapest_98 (fun q14 => ?_)
          exact rn_iret rfl dk_Nm_cheapest_101
        · refine rn_iconst (pc := 89) (-1 : Int32) dk_Nm_cheapest_89 cn_i_m1 ?_
          refine rn_goto (pc := 90) 101 dk_Nm_cheapest_90 (by decide) ?_
          exact rn_iret rfl dk_Nm_cheapest_101
    · refine rn_iload_n (pc := 61) 2 dk_Nm_cheapest_61 rfl rfl ?_
      refine rn_iconst (pc := 62) (-1 : Int32) dk_Nm_cheapest_62 cn_i_m1 ?_
      refine rn_icmp_ne (pc := 63) 70 dk_Nm_cheapest_63 (by decide) (fun c15 => ?_) (fun c15 => ?_)
      · refine rn_aload_n (pc := 70) 0 dk_Nm_cheapest_70 rfl rfl rfl ?_
        refine gf_Nm_31 (pc := 71) rfl dk_Nm_cheapest_71 ?_
        refine rn_iload_n (pc := 74) 2 dk_Nm_cheapest_74 rfl rfl ?_
        refine cl_Nm_215 (pc := 75) (As := [.int q7.1]) (st := []) rfl (ct_Se_bitsOf X q7.1 q7.2) (Nat.le_trans (Nat.le_of_ble_eq_true rfl) hF0) rfl rfl (Nat.le_of_ble_eq_true rfl) dk_Nm_cheapest_75 (fun q16 => ?_)
        exact rn_iret rfl dk_Nm_cheapest_78
      · refine rn_iconst (pc := 66) (-1 : Int32) dk_Nm_cheapest_66 cn_i_m1 ?_
        refine rn_goto (pc := 67) 78 dk_Nm_cheapest_67 (by decide) ?_
        exact rn_iret rfl dk_Nm_cheapest_78
  · refine rn_aload_n (pc := 9) 0 dk_Nm_cheapest_9 rfl rfl rfl ?_
    refine rn_bipush (pc := 10) (-5 : Int32) dk_Nm_cheapest_10 cn_b_m5 ?_
    refine cl_Nm_209 (pc := 12) (As := [.int (-5 : Int32)]) (st := []) rfl (ct_Nm_refuseFar X (-5 : Int32) q1.2) (Nat.le_trans (Nat.le_of_ble_eq_true rfl) hF0) rfl rfl (Nat.le_of_ble_eq_true rfl) dk_Nm_cheapest_12 (fun q17 => ?_)
    exact rn_iret rfl dk_Nm_cheapest_15
theorem dk_Is_firstWhoKnowsMost_0 : decode mi_Is_firstWhoKnowsMost.2.1 0 = .ok (.iconst (-1), 1) := by decide +kernel
theorem dk_Is_firstWhoKnowsMost_1 : decode mi_Is_firstWhoKnowsMost.2.1 1 = .ok (.istore_n 2, 1) := by decide +kernel
theorem dk_Is_firstWhoKnowsMost_2 : decode mi_Is_firstWhoKnowsMost.2.1 2 = .ok (.iconst 0, 1) := by decide +kernel
theorem dk_Is_firstWhoKnowsMost_3 : decode mi_Is_firstWhoKnowsMost.2.1 3 = .ok (.istore_n 3, 1) := by decide +kernel
theorem dk_Is_firstWhoKnowsMost_4 : decode mi_Is_firstWhoKnowsMost.2.1 4 = .ok (.iconst 0, 1) := by decide +kernel
theorem dk_Is_firstWhoKnowsMost_5 : decode mi_Is_firstWhoKnowsMost.2.1 5 = .ok (.istore 4, 2) := by decide +kernel
theorem dk_Is_firstWhoKnowsMost_7 : decode mi_Is_firstWhoKnowsMost.2.1 7 = .ok (.iload 4, 2) := by decide +kernel
theorem dk_Is_firstWhoKnowsMost_9 : decode mi_Is_firstWhoKnowsMost.2.1 9 = .ok (.bipush 8, 2) := by decide +kernel
theorem dk_Is_firstWhoKnowsMost_11 : decode mi_Is_firstWhoKnowsMost.2.1 11 = .ok (.if_icmp .ge 55, 3) := by decide +kernel
theorem dk_Is_firstWhoKnowsMost_14 : decode mi_Is_firstWhoKnowsMost.2.1 14 = .ok (.aload_n 0, 1) := by decide +kernel
theorem dk_Is_firstWhoKnowsMost_15 : decode mi_Is_firstWhoKnowsMost.2.1 15 = .ok (.getfield 21, 3) := by decide +kernel
theorem dk_Is_firstWhoKnowsMost_18 : decode mi_Is_firstWhoKnowsMost.2.1 18 = .ok (.iload 4, 2) := by decide +kernel
theorem dk_Is_firstWhoKnowsMost_20 : decode mi_Is_firstWhoKnowsMost.2.1 20 = .ok (.iaload, 1) := by decide +kernel
theorem dk_Is_firstWhoKnowsMost_21 : decode mi_Is_firstWhoKnowsMost.2.1 21 = .ok (.iload_n 1, 1) := by decide +kernel
theorem dk_Is_firstWhoKnowsMost_22 : decode mi_Is_firstWhoKnowsMost.2.1 22 = .ok (.iand, 1) := by decide +kernel
theorem dk_Is_firstWhoKnowsMost_23 : decode mi_Is_firstWhoKnowsMost.2.1 23 = .ok (.invokestatic 96, 3) := by decide +kernel
theorem dk_Is_firstWhoKnowsMost_26 : decode mi_Is_firstWhoKnowsMost.2.1 26 = .ok (.istore 5, 2) := by decide +kernel
theorem dk_Is_firstWhoKnowsMost_28 : decode mi_Is_firstWhoKnowsMost.2.1 28 = .ok (.aload_n 0, 1) := by decide +kernel
theorem dk_Is_firstWhoKnowsMost_29 : decode mi_Is_firstWhoKnowsMost.2.1 29 = .ok (.iload 4, 2) := by decide +kernel
theorem dk_Is_firstWhoKnowsMost_31 : decode mi_Is_firstWhoKnowsMost.2.1 31 = .ok (.invokevirtual 59, 3) := by decide +kernel
theorem dk_Is_firstWhoKnowsMost_34 : decode mi_Is_firstWhoKnowsMost.2.1 34 = .ok (.ifCond .eq 26, 3) := by decide +kernel
theorem dk_Is_firstWhoKnowsMost_37 : decode mi_Is_firstWhoKnowsMost.2.1 37 = .ok (.aload_n 0, 1) := by decide +kernel
theorem dk_Is_firstWhoKnowsMost_38 : decode mi_Is_firstWhoKnowsMost.2.1 38 = .ok (.getfield 27, 3) := by decide +kernel
theorem dk_Is_firstWhoKnowsMost_41 : decode mi_Is_firstWhoKnowsMost.2.1 41 = .ok (.iload 4, 2) := by decide +kernel
theorem dk_Is_firstWhoKnowsMost_43 : decode mi_Is_firstWhoKnowsMost.2.1 43 = .ok (.iaload, 1) := by decide +kernel
theorem dk_Is_firstWhoKnowsMost_44 : decode mi_Is_firstWhoKnowsMost.2.1 44 = .ok (.iconst 3, 1) := by decide +kernel
theorem dk_Is_firstWhoKnowsMost_45 : decode mi_Is_firstWhoKnowsMost.2.1 45 = .ok (.if_icmp .eq 15, 3) := by decide +kernel
theorem dk_Is_firstWhoKnowsMost_48 : decode mi_Is_firstWhoKnowsMost.2.1 48 = .ok (.iload 5, 2) := by decide +kernel
theorem dk_Is_firstWhoKnowsMost_50 : decode mi_Is_firstWhoKnowsMost.2.1 50 = .ok (.iload_n 3, 1) := by decide +kernel
theorem dk_Is_firstWhoKnowsMost_51 : decode mi_Is_firstWhoKnowsMost.2.1 51 = .ok (.if_icmp .le 9, 3) := by decide +kernel
theorem dk_Is_firstWhoKnowsMost_54 : decode mi_Is_firstWhoKnowsMost.2.1 54 = .ok (.iload 5, 2) := by decide +kernel
theorem dk_Is_firstWhoKnowsMost_56 : decode mi_Is_firstWhoKnowsMost.2.1 56 = .ok (.istore_n 3, 1) := by decide +kernel
theorem dk_Is_firstWhoKnowsMost_57 : decode mi_Is_firstWhoKnowsMost.2.1 57 = .ok (.iload 4, 2) := by decide +kernel
theorem dk_Is_firstWhoKnowsMost_59 : decode mi_Is_firstWhoKnowsMost.2.1 59 = .ok (.istore_n 2, 1) := by decide +kernel
theorem dk_Is_firstWhoKnowsMost_60 : decode mi_Is_firstWhoKnowsMost.2.1 60 = .ok (.iinc 4 1, 3) := by decide +kernel
theorem dk_Is_firstWhoKnowsMost_63 : decode mi_Is_firstWhoKnowsMost.2.1 63 = .ok (.goto (-56), 3) := by decide +kernel
theorem dk_Is_firstWhoKnowsMost_66 : decode mi_Is_firstWhoKnowsMost.2.1 66 = .ok (.iload_n 2, 1) := by decide +kernel
theorem dk_Is_firstWhoKnowsMost_67 : decode mi_Is_firstWhoKnowsMost.2.1 67 = .ok (.ireturn, 1) := by decide +kernel
def Is_firstWhoKnowsMost_l7 (o : Nat) (k_66 : Int32 → nm_St → Option (Int32 × nm_St)) : Nat → Int32 → Int32 → Int32 → Int32 → nm_St → Option (Int32 × nm_St)
  | 0, _, _, _, _, _ => none
  | n + 1, x1, x2, x3, x4, σ =>
    (if (8 : Int32) ≤ x4 then
      k_66 x2 σ
    else
      (nm_g (nm_in x4 8) (
      ((Ji_bitCount ((σ.1 (o + 4) x4.toNatClampNeg) &&& x1) σ).bind fun q3 =>
      ((Is_isMaker o x4 q3.2).bind fun q4 =>
      (if q4.1 = 0 then
        (Is_firstWhoKnowsMost_l7 o k_66 n) x1 x2 x3 (x4 + (1 : Int32)) q4.2
      else
        (nm_g (nm_in x4 8) (
        (if (q4.2.1 (o + 6) x4.toNatClampNeg) = (3 : Int32) then
          (Is_firstWhoKnowsMost_l7 o k_66 n) x1 x2 x3 (x4 + (1 : Int32)) q4.2
        else
          (if q3.1 ≤ x3 then
            (Is_firstWhoKnowsMost_l7 o k_66 n) x1 x2 x3 (x4 + (1 : Int32)) q4.2
          else
            (Is_firstWhoKnowsMost_l7 o k_66 n) x1 x4 q3.1 (x4 + (1 : Int32)) q4.2))))))))))
set_option maxRecDepth 100000 in
set_option maxHeartbeats 4000000 in
theorem r_Is_firstWhoKnowsMost_l7 (X : nm_X) (F : nm_F) (hF0 : 1 ≤ nm_d F) (o : Nat) (ho : nm_isl o = true) (k_66 : Int32 → nm_St → Option (Int32 × nm_St)) (hk_66 : ∀ (x2 : Int32) (σ : nm_St), Rn X mi_Is_firstWhoKnowsMost F (nm_Qf X F nm_wI) [(2, .int x2)] [] 66 σ (k_66 x2 σ)) : ∀ (n : Nat) (x1 : Int32) (x2 : Int32) (x3 : Int32) (x4 : Int32) (σ : nm_St), Rn X mi_Is_firstWhoKnowsMost F (nm_Qf X F nm_wI) [(0, .ref o), (1, .int x1), (2, .int x2), (3, .int x3), (4, .int x4)] [] 7 σ (Is_firstWhoKnowsMost_l7 o k_66 n x1 x2 x3 x4 σ) := by
  intro n
  induction n with
  | zero =>
    intro x1 x2 x3 x4 σ
    exact rn_none
  | succ n ih =>
    intro x1 x2 x3 x4 σ
    unfold Is_firstWhoKnowsMost_l7
    refine rn_iload (pc := 7) dk_Is_firstWhoKnowsMost_7 rfl ?_
    refine rn_bipush (pc := 9) (8 : Int32) dk_Is_firstWhoKnowsMost_9 cn_b_8 ?_
    refine rn_icmp_ge (pc := 11) 66 dk_Is_firstWhoKnowsMost_11 (by decide) (fun c1 => ?_) (fun c1 => ?_)
    · exact rn_sub (by rfl) (hk_66 x2 σ)
    · refine rn_aload_n (pc := 14) 0 dk_Is_firstWhoKnowsMost_14 rfl rfl (nm_rok_isl ho) ?_
      refine gf_Is_21 (pc := 15) o ho rfl dk_Is_firstWhoKnowsMost_15 ?_
      refine rn_iload (pc := 18) dk_Is_firstWhoKnowsMost_18 rfl ?_
      refine rn_iaload (pc := 20) (nm_i4 ho) dk_Is_firstWhoKnowsMost_20 (fun g2 => ?_)
      refine rn_iload_n (pc := 21) 1 dk_Is_firstWhoKnowsMost_21 rfl rfl ?_
      refine rn_iand (pc := 22) dk_Is_firstWhoKnowsMost_22 ?_
      refine cl_Is_96 (pc := 23) (As := [.int ((σ.1 (o + 4) x4.toNatClampNeg) &&& x1)]) (st := []) rfl (ct_Ji_bitCount X ((σ.1 (o + 4) x4.toNatClampNeg) &&& x1) σ) (Nat.le_trans (Nat.le_of_ble_eq_true rfl) hF0) rfl rfl (Nat.le_of_ble_eq_true rfl) dk_Is_firstWhoKnowsMost_23 (fun q3 => ?_)
      refine rn_istore (pc := 26) dk_Is_firstWhoKnowsMost_26 rfl rfl ?_
      refine rn_aload_n (pc := 28) 0 dk_Is_firstWhoKnowsMost_28 rfl rfl (nm_rok_isl ho) ?_
      refine rn_iload (pc := 29) dk_Is_firstWhoKnowsMost_29 rfl ?_
      refine cl_Is_59 (pc := 31) (As := [.int x4]) (st := []) o ho rfl (ct_Is_isMaker X o ho x4 q3.2) (Nat.le_trans (Nat.le_of_ble_eq_true rfl) hF0) rfl rfl (Nat.le_of_ble_eq_true rfl) dk_Is_firstWhoKnowsMost_31 (fun q4 => ?_)
      refine rn_if_eq (pc := 34) 60 dk_Is_firstWhoKnowsMost_34 (by decide) (fun c5 => ?_) (fun c5 => ?_)
      · refine rn_iinc (pc := 60) (1 : Int32) dk_Is_firstWhoKnowsMost_60 cn_i_1 rfl rfl rfl ?_
        refine rn_goto (pc := 63) 7 dk_Is_firstWhoKnowsMost_63 (by decide) ?_
        exact rn_sub (by rfl) (ih x1 x2 x3 (x4 + (1 : Int32)) q4.2)
      · refine rn_aload_n (pc := 37) 0 dk_Is_firstWhoKnowsMost_37 rfl rfl (nm_rok_isl ho) ?_
        refine gf_Is_27 (pc := 38) o ho rfl dk_Is_firstWhoKnowsMost_38 ?_
        refine rn_iload (pc := 41) dk_Is_firstWhoKnowsMost_41 rfl ?_
        refine rn_iaload (pc := 43) (nm_i6 ho) dk_Is_firstWhoKnowsMost_43 (fun g6 => ?_)
        refine rn_iconst (pc := 44) (3 : Int32) dk_Is_firstWhoKnowsMost_44 cn_i_3 ?_
        refine rn_icmp_eq (pc := 45) 60 dk_Is_firstWhoKnowsMost_45 (by decide) (fun c7 => ?_) (fun c7 => ?_)
        · refine rn_iinc (pc := 60) (1 : Int32) dk_Is_firstWhoKnowsMost_60 cn_i_1 rfl rfl rfl ?_
          refine rn_goto (pc := 63) 7 dk_Is_firstWhoKnowsMost_63 (by decide) ?_
          exact rn_sub (by rfl) (ih x1 x2 x3 (x4 + (1 : Int32)) q4.2)
        · refine rn_iload (pc := 48) dk_Is_firstWhoKnowsMost_48 rfl ?_
          refine rn_iload_n (pc := 50) 3 dk_Is_firstWhoKnowsMost_50 rfl rfl ?_
          refine rn_icmp_le (pc := 51) 60 dk_Is_firstWhoKnowsMost_51 (by decide) (fun c8 => ?_) (fun c8 => ?_)
          · refine rn_iinc (pc := 60) (1 : Int32) dk_Is_firstWhoKnowsMost_60 cn_i_1 rfl rfl rfl ?_
            refine rn_goto (pc := 63) 7 dk_Is_firstWhoKnowsMost_63 (by decide) ?_
            exact rn_sub (by rfl) (ih x1 x2 x3 (x4 + (1 : Int32)) q4.2)
          · refine rn_iload (pc := 54) dk_Is_firstWhoKnowsMost_54 rfl ?_
            refine rn_istore_n (pc := 56) 3 dk_Is_firstWhoKnowsMost_56 rfl rfl rfl ?_
            refine rn_iload (pc := 57) dk_Is_firstWhoKnowsMost_57 rfl ?_
            refine rn_istore_n (pc := 59) 2 dk_Is_firstWhoKnowsMost_59 rfl rfl rfl ?_
            refine rn_iinc (pc := 60) (1 : Int32) dk_Is_firstWhoKnowsMost_60 cn_i_1 rfl rfl rfl ?_
            refine rn_goto (pc := 63) 7 dk_Is_firstWhoKnowsMost_63 (by decide) ?_
            exact rn_sub (by rfl) (ih x1 x4 q3.1 (x4 + (1 : Int32)) q4.2)
def Is_firstWhoKnowsMost (o : Nat) (p1 : Int32) (σ : nm_St) : Option (Int32 × nm_St) :=
  Is_firstWhoKnowsMost_l7 o (fun (e10 : Int32) (s9 : nm_St) =>
    some (e10, s9)) 400 p1 (-1 : Int32) (0 : Int32) (0 : Int32) σ
set_option maxRecDepth 100000 in
set_option maxHeartbeats 4000000 in
theorem ct_Is_firstWhoKnowsMost (X : nm_X) (o : Nat) (ho : nm_isl o = true) (p1 : Int32) (σ : nm_St) : Ct X mi_Is_firstWhoKnowsMost 1 nm_wI [.ref o, .int p1] σ (Is_firstWhoKnowsMost o p1 σ) := by
  refine Ct.of (by decide +kernel) rfl (fun F hF0 => ?_)
  unfold Is_firstWhoKnowsMost
  refine rn_iconst (pc := 0) (-1 : Int32) dk_Is_firstWhoKnowsMost_0 cn_i_m1 ?_
  refine rn_istore_n (pc := 1) 2 dk_Is_firstWhoKnowsMost_1 rfl rfl rfl ?_
  refine rn_iconst (pc := 2) (0 : Int32) dk_Is_firstWhoKnowsMost_2 cn_i_0 ?_
  refine rn_istore_n (pc := 3) 3 dk_Is_firstWhoKnowsMost_3 rfl rfl rfl ?_
  refine rn_iconst (pc := 4) (0 : Int32) dk_Is_firstWhoKnowsMost_4 cn_i_0 ?_
  refine rn_istore (pc := 5) dk_Is_firstWhoKnowsMost_5 rfl rfl ?_
  refine rn_sub (by rfl) (r_Is_firstWhoKnowsMost_l7 X F hF0 o ho _ (fun e10 s9 => ?_) 400 p1 (-1 : Int32) (0 : Int32) (0 : Int32) σ)
  refine rn_iload_n (pc := 66) 2 dk_Is_firstWhoKnowsMost_66 rfl rfl ?_
  exact rn_iret rfl dk_Is_firstWhoKnowsMost_67
theorem dk_Is_everyone_0 : decode mi_Is_everyone.2.1 0 = .ok (.iconst 1, 1) := by decide +kernel
theorem dk_Is_everyone_1 : decode mi_Is_everyone.2.1 1 = .ok (.aload_n 0, 1) := by decide +kernel
theorem dk_Is_everyone_2 : decode mi_Is_everyone.2.1 2 = .ok (.getfield 30, 3) := by decide +kernel
theorem dk_Is_everyone_5 : decode mi_Is_everyone.2.1 5 = .ok (.ishl, 1) := by decide +kernel
theorem dk_Is_everyone_6 : decode mi_Is_everyone.2.1 6 = .ok (.iconst 1, 1) := by decide +kernel
theorem dk_Is_everyone_7 : decode mi_Is_everyone.2.1 7 = .ok (.isub, 1) := by decide +kernel
theorem dk_Is_everyone_8 : decode mi_Is_everyone.2.1 8 = .ok (.ireturn, 1) := by decide +kernel
def Is_everyone (o : Nat) (σ : nm_St) : Option (Int32 × nm_St) :=
  some ((((1 : Int32) <<< ((σ.1 o 6) &&& 31)) - (1 : Int32)), σ)
set_option maxRecDepth 100000 in
set_option maxHeartbeats 4000000 in
theorem ct_Is_everyone (X : nm_X) (o : Nat) (ho : nm_isl o = true) (σ : nm_St) : Ct X mi_Is_everyone 0 nm_wI [.ref o] σ (Is_everyone o σ) := by
  refine Ct.of (by decide +kernel) rfl (fun F hF0 => ?_)
  unfold Is_everyone
  refine rn_iconst (pc := 0) (1 : Int32) dk_Is_everyone_0 cn_i_1 ?_
  refine rn_aload_n (pc := 1) 0 dk_Is_everyone_1 rfl rfl (nm_rok_isl ho) ?_
  refine gf_Is_30 (pc := 2) o ho rfl dk_Is_everyone_2 ?_
  refine rn_ishl (pc := 5) dk_Is_everyone_5 ?_
  refine rn_iconst (pc := 6) (1 : Int32) dk_Is_everyone_6 cn_i_1 ?_
  refine rn_isub (pc := 7) dk_Is_everyone_7 ?_
  exact rn_iret rfl dk_Is_everyone_8
theorem dk_Is_thoseAlive_0 : decode mi_Is_thoseAlive.2.1 0 = .ok (.aload_n 0, 1) := by decide +kernel
theorem dk_Is_thoseAlive_1 : decode mi_Is_thoseAlive.2.1 1 = .ok (.invokevirtual 80, 3) := by decide +kernel
theorem dk_Is_thoseAlive_4 : decode mi_Is_thoseAlive.2.1 4 = .ok (.aload_n 0, 1) := by decide +kernel
theorem dk_Is_thoseAlive_5 : decode mi_Is_thoseAlive.2.1 5 = .ok (.iconst 3, 1) := by decide +kernel
theorem dk_Is_thoseAlive_6 : decode mi_Is_thoseAlive.2.1 6 = .ok (.invokevirtual 83, 3) := by decide +kernel
theorem dk_Is_thoseAlive_9 : decode mi_Is_thoseAlive.2.1 9 = .ok (.iconst (-1), 1) := by decide +kernel
theorem dk_Is_thoseAlive_10 : decode mi_Is_thoseAlive.2.1 10 = .ok (.ixor, 1) := by decide +kernel
theorem dk_Is_thoseAlive_11 : decode mi_Is_thoseAlive.2.1 11 = .ok (.iand, 1) := by decide +kernel
theorem dk_Is_thoseAlive_12 : decode mi_Is_thoseAlive.2.1 12 = .ok (.ireturn, 1) := by decide +kernel
def Is_thoseAlive (o : Nat) (σ : nm_St) : Option (Int32 × nm_St) :=
  ((Is_everyone o σ).bind fun q1 =>
  ((Is_thoseAt o (3 : Int32) q1.2).bind fun q2 =>
  some ((q1.1 &&& (q2.1 ^^^ (-1 : Int32))), q2.2)))
set_option maxRecDepth 100000 in
set_option maxHeartbeats 4000000 in
theorem ct_Is_thoseAlive (X : nm_X) (o : Nat) (ho : nm_isl o = true) (σ : nm_St) : Ct X mi_Is_thoseAlive 2 nm_wI [.ref o] σ (Is_thoseAlive o σ) := by
  refine Ct.of (by decide +kernel) rfl (fun F hF0 => ?_)
  unfold Is_thoseAlive
  refine rn_aload_n (pc := 0) 0 dk_Is_thoseAlive_0 rfl rfl (nm_rok_isl ho) ?_
  refine cl_Is_80 (pc := 1) (As := []) (st := []) o ho rfl (ct_Is_everyone X o ho σ) (Nat.le_trans (Nat.le_of_ble_eq_true rfl) hF0) rfl rfl (Nat.le_of_ble_eq_true rfl) dk_Is_thoseAlive_1 (fun q1 => ?_)
  refine rn_aload_n (pc := 4) 0 dk_Is_thoseAlive_4 rfl rfl (nm_rok_isl ho) ?_
  refine rn_iconst (pc := 5) (3 : Int32) dk_Is_thoseAlive_5 cn_i_3 ?_
  refine cl_Is_83 (pc := 6) (As := [.int (3 : Int32)]) (st := [.int q1.1]) o ho rfl (ct_Is_thoseAt X o ho (3 : Int32) q1.2) (Nat.le_trans (Nat.le_of_ble_eq_true rfl) hF0) rfl rfl (Nat.le_of_ble_eq_true rfl) dk_Is_thoseAlive_6 (fun q2 => ?_)
  refine rn_iconst (pc := 9) (-1 : Int32) dk_Is_thoseAlive_9 cn_i_m1 ?_
  refine rn_ixor (pc := 10) dk_Is_thoseAlive_10 ?_
  refine rn_iand (pc := 11) dk_Is_thoseAlive_11 ?_
  exact rn_iret rfl dk_Is_thoseAlive_12
theorem dk_Is_whoKnow_0 : decode mi_Is_whoKnow.2.1 0 = .ok (.iconst 0, 1) := by decide +kernel
theorem dk_Is_whoKnow_1 : decode mi_Is_whoKnow.2.1 1 = .ok (.istore_n 3, 1) := by decide +kernel
theorem dk_Is_whoKnow_2 : decode mi_Is_whoKnow.2.1 2 = .ok (.iconst 0, 1) := by decide +kernel
theorem dk_Is_whoKnow_3 : decode mi_Is_whoKnow.2.1 3 = .ok (.istore 4, 2) := by decide +kernel
theorem dk_Is_whoKnow_5 : decode mi_Is_whoKnow.2.1 5 = .ok (.iload 4, 2) := by decide +kernel
theorem dk_Is_whoKnow_7 : decode mi_Is_whoKnow.2.1 7 = .ok (.bipush 8, 2) := by decide +kernel
theorem dk_Is_whoKnow_9 : decode mi_Is_whoKnow.2.1 9 = .ok (.if_icmp .ge 35, 3) := by decide +kernel
theorem dk_Is_whoKnow_12 : decode mi_Is_whoKnow.2.1 12 = .ok (.iload_n 1, 1) := by decide +kernel
theorem dk_Is_whoKnow_13 : decode mi_Is_whoKnow.2.1 13 = .ok (.iconst 1, 1) := by decide +kernel
theorem dk_Is_whoKnow_14 : decode mi_Is_whoKnow.2.1 14 = .ok (.iload 4, 2) := by decide +kernel
theorem dk_Is_whoKnow_16 : decode mi_Is_whoKnow.2.1 16 = .ok (.ishl, 1) := by decide +kernel
theorem dk_Is_whoKnow_17 : decode mi_Is_whoKnow.2.1 17 = .ok (.iand, 1) := by decide +kernel
theorem dk_Is_whoKnow_18 : decode mi_Is_whoKnow.2.1 18 = .ok (.ifCond .eq 20, 3) := by decide +kernel
theorem dk_Is_whoKnow_21 : decode mi_Is_whoKnow.2.1 21 = .ok (.aload_n 0, 1) := by decide +kernel
theorem dk_Is_whoKnow_22 : decode mi_Is_whoKnow.2.1 22 = .ok (.getfield 21, 3) := by decide +kernel
theorem dk_Is_whoKnow_25 : decode mi_Is_whoKnow.2.1 25 = .ok (.iload 4, 2) := by decide +kernel
theorem dk_Is_whoKnow_27 : decode mi_Is_whoKnow.2.1 27 = .ok (.iaload, 1) := by decide +kernel
theorem dk_Is_whoKnow_28 : decode mi_Is_whoKnow.2.1 28 = .ok (.iconst 1, 1) := by decide +kernel
theorem dk_Is_whoKnow_29 : decode mi_Is_whoKnow.2.1 29 = .ok (.iload_n 2, 1) := by decide +kernel
theorem dk_Is_whoKnow_30 : decode mi_Is_whoKnow.2.1 30 = .ok (.ishl, 1) := by decide +kernel
theorem dk_Is_whoKnow_31 : decode mi_Is_whoKnow.2.1 31 = .ok (.iand, 1) := by decide +kernel
theorem dk_Is_whoKnow_32 : decode mi_Is_whoKnow.2.1 32 = .ok (.ifCond .eq 6, 3) := by decide +kernel
theorem dk_Is_whoKnow_35 : decode mi_Is_whoKnow.2.1 35 = .ok (.iinc 3 1, 3) := by decide +kernel
theorem dk_Is_whoKnow_38 : decode mi_Is_whoKnow.2.1 38 = .ok (.iinc 4 1, 3) := by decide +kernel
theorem dk_Is_whoKnow_41 : decode mi_Is_whoKnow.2.1 41 = .ok (.goto (-36), 3) := by decide +kernel
theorem dk_Is_whoKnow_44 : decode mi_Is_whoKnow.2.1 44 = .ok (.iload_n 3, 1) := by decide +kernel
theorem dk_Is_whoKnow_45 : decode mi_Is_whoKnow.2.1 45 = .ok (.ireturn, 1) := by decide +kernel
def Is_whoKnow_l5 (o : Nat) (k_44 : Int32 → nm_St → Option (Int32 × nm_St)) : Nat → Int32 → Int32 → Int32 → Int32 → nm_St → Option (Int32 × nm_St)
  | 0, _, _, _, _, _ => none
  | n + 1, x1, x2, x3, x4, σ =>
    (if (8 : Int32) ≤ x4 then
      k_44 x3 σ
    else
      (if (x1 &&& ((1 : Int32) <<< (x4 &&& 31))) = 0 then
        (Is_whoKnow_l5 o k_44 n) x1 x2 x3 (x4 + (1 : Int32)) σ
      else
        (nm_g (nm_in x4 8) (
        (if ((σ.1 (o + 4) x4.toNatClampNeg) &&& ((1 : Int32) <<< (x2 &&& 31))) = 0 then
          (Is_whoKnow_l5 o k_44 n) x1 x2 x3 (x4 + (1 : Int32)) σ
        else
          (Is_whoKnow_l5 o k_44 n) x1 x2 (x3 + (1 : Int32)) (x4 + (1 : Int32)) σ)))))
set_option maxRecDepth 100000 in
set_option maxHeartbeats 4000000 in
theorem r_Is_whoKnow_l5 (X : nm_X) (F : nm_F) (hF0 : 0 ≤ nm_d F) (o : Nat) (ho : nm_isl o = true) (k_44 : Int32 → nm_St → Option (Int32 × nm_St)) (hk_44 : ∀ (x3 : Int32) (σ : nm_St), Rn X mi_Is_whoKnow F (nm_Qf X F nm_wI) [(3, .int x3)] [] 44 σ (k_44 x3 σ)) : ∀ (n : Nat) (x1 : Int32) (x2 : Int32) (x3 : Int32) (x4 : Int32) (σ : nm_St), Rn X mi_Is_whoKnow F (nm_Qf X F nm_wI) [(0, .ref o), (1, .int x1), (2, .int x2), (3, .int x3), (4, .int x4)] [] 5 σ (Is_whoKnow_l5 o k_44 n x1 x2 x3 x4 σ) := by
  intro n
  induction n with
  | zero =>
    intro x1 x2 x3 x4 σ
    exact rn_none
  | succ n ih =>
    intro x1 x2 x3 x4 σ
    unfold Is_whoKnow_l5
    refine rn_iload (pc := 5) dk_Is_whoKnow_5 rfl ?_
    refine rn_bipush (pc := 7) (8 : Int32) dk_Is_whoKnow_7 cn_b_8 ?_
    refine rn_icmp_ge (pc := 9) 44 dk_Is_whoKnow_9 (by decide) (fun c1 => ?_) (fun c1 => ?_)
    · exact rn_sub (by rfl) (hk_44 x3 σ)
    · refine rn_iload_n (pc := 12) 1 dk_Is_whoKnow_12 rfl rfl ?_
      refine rn_iconst (pc := 13) (1 : Int32) dk_Is_whoKnow_13 cn_i_1 ?_
      refine rn_iload (pc := 14) dk_Is_whoKnow_14 rfl ?_
      refine rn_ishl (pc := 16) dk_Is_whoKnow_16 ?_
      refine rn_iand (pc := 17) dk_Is_whoKnow_17 ?_
      refine rn_if_eq (pc := 18) 38 dk_Is_whoKnow_18 (by decide) (fun c2 => ?_) (fun c2 => ?_)
      · refine rn_iinc (pc := 38) (1 : Int32) dk_Is_whoKnow_38 cn_i_1 rfl rfl rfl ?_
        refine rn_goto (pc := 41) 5 dk_Is_whoKnow_41 (by decide) ?_
        exact rn_sub (by rfl) (ih x1 x2 x3 (x4 + (1 : Int32)) σ)
      · refine rn_aload_n (pc := 21) 0 dk_Is_whoKnow_21 rfl rfl (nm_rok_isl ho) ?_
        refine gf_Is_21 (pc := 22) o ho rfl dk_Is_whoKnow_22 ?_
        refine rn_iload (pc := 25) dk_Is_whoKnow_25 rfl ?_
        refine rn_iaload (pc := 27) (nm_i4 ho) dk_Is_whoKnow_27 (fun g3 => ?_)
        refine rn_iconst (pc := 28) (1 : Int32) dk_Is_whoKnow_28 cn_i_1 ?_
        refine rn_iload_n (pc := 29) 2 dk_Is_whoKnow_29 rfl rfl ?_
        refine rn_ishl (pc := 30) dk_Is_whoKnow_30 ?_
        refine rn_iand (pc := 31) dk_Is_whoKnow_31 ?_
        refine rn_if_eq (pc := 32) 38 dk_Is_whoKnow_32 (by decide) (fun c4 => ?_) (fun c4 => ?_)
        · refine rn_iinc (pc := 38) (1 : Int32) dk_Is_whoKnow_38 cn_i_1 rfl rfl rfl ?_
          refine rn_goto (pc := 41) 5 dk_Is_whoKnow_41 (by decide) ?_
          exact rn_sub (by rfl) (ih x1 x2 x3 (x4 + (1 : Int32)) σ)
        · refine rn_iinc (pc := 35) (1 : Int32) dk_Is_whoKnow_35 cn_i_1 rfl rfl rfl ?_
          refine rn_iinc (pc := 38) (1 : Int32) dk_Is_whoKnow_38 cn_i_1 rfl rfl rfl ?_
          refine rn_goto (pc := 41) 5 dk_Is_whoKnow_41 (by decide) ?_
          exact rn_sub (by rfl) (ih x1 x2 (x3 + (1 : Int32)) (x4 + (1 : Int32)) σ)
def Is_whoKnow (o : Nat) (p1 : Int32) (p2 : Int32) (σ : nm_St) : Option (Int32 × nm_St) :=
  Is_whoKnow_l5 o (fun (e6 : Int32) (s5 : nm_St) =>
    some (e6, s5)) 400 p1 p2 (0 : Int32) (0 : Int32) σ
set_option maxRecDepth 100000 in
set_option maxHeartbeats 4000000 in
theorem ct_Is_whoKnow (X : nm_X) (o : Nat) (ho : nm_isl o = true) (p1 : Int32) (p2 : Int32) (σ : nm_St) : Ct X mi_Is_whoKnow 0 nm_wI [.ref o, .int p1, .int p2] σ (Is_whoKnow o p1 p2 σ) := by
  refine Ct.of (by decide +kernel) rfl (fun F hF0 => ?_)
  unfold Is_whoKnow
  refine rn_iconst (pc := 0) (0 : Int32) dk_Is_whoKnow_0 cn_i_0 ?_
  refine rn_istore_n (pc := 1) 3 dk_Is_whoKnow_1 rfl rfl rfl ?_
  refine rn_iconst (pc := 2) (0 : Int32) dk_Is_whoKnow_2 cn_i_0 ?_
  refine rn_istore (pc := 3) dk_Is_whoKnow_3 rfl rfl ?_
  refine rn_sub (by rfl) (r_Is_whoKnow_l5 X F hF0 o ho _ (fun e6 s5 => ?_) 400 p1 p2 (0 : Int32) (0 : Int32) σ)
  refine rn_iload_n (pc := 44) 3 dk_Is_whoKnow_44 rfl rfl ?_
  exact rn_iret rfl dk_Is_whoKnow_45
theorem dk_Is_knownToOne_0 : decode mi_Is_knownToOne.2.1 0 = .ok (.aload_n 0, 1) := by decide +kernel
theorem dk_Is_knownToOne_1 : decode mi_Is_knownToOne.2.1 1 = .ok (.invokevirtual 89, 3) := by decide +kernel
theorem dk_Is_knownToOne_4 : decode mi_Is_knownToOne.2.1 4 = .ok (.istore_n 1, 1) := by decide +kernel
theorem dk_Is_knownToOne_5 : decode mi_Is_knownToOne.2.1 5 = .ok (.iconst 0, 1) := by decide +kernel
theorem dk_Is_knownToOne_6 : decode mi_Is_knownToOne.2.1 6 = .ok (.istore_n 2, 1) := by decide +kernel
theorem dk_Is_knownToOne_7 : decode mi_Is_knownToOne.2.1 7 = .ok (.iconst 0, 1) := by decide +kernel
theorem dk_Is_knownToOne_8 : decode mi_Is_knownToOne.2.1 8 = .ok (.istore_n 3, 1) := by decide +kernel
theorem dk_Is_knownToOne_9 : decode mi_Is_knownToOne.2.1 9 = .ok (.iload_n 3, 1) := by decide +kernel
theorem dk_Is_knownToOne_10 : decode mi_Is_knownToOne.2.1 10 = .ok (.aload_n 0, 1) := by decide +kernel
theorem dk_Is_knownToOne_11 : decode mi_Is_knownToOne.2.1 11 = .ok (.getfield 34, 3) := by decide +kernel
theorem dk_Is_knownToOne_14 : decode mi_Is_knownToOne.2.1 14 = .ok (.if_icmp .ge 25, 3) := by decide +kernel
theorem dk_Is_knownToOne_17 : decode mi_Is_knownToOne.2.1 17 = .ok (.aload_n 0, 1) := by decide +kernel
theorem dk_Is_knownToOne_18 : decode mi_Is_knownToOne.2.1 18 = .ok (.iload_n 1, 1) := by decide +kernel
theorem dk_Is_knownToOne_19 : decode mi_Is_knownToOne.2.1 19 = .ok (.iload_n 3, 1) := by decide +kernel
theorem dk_Is_knownToOne_20 : decode mi_Is_knownToOne.2.1 20 = .ok (.invokevirtual 92, 3) := by decide +kernel
theorem dk_Is_knownToOne_23 : decode mi_Is_knownToOne.2.1 23 = .ok (.iconst 1, 1) := by decide +kernel
theorem dk_Is_knownToOne_24 : decode mi_Is_knownToOne.2.1 24 = .ok (.if_icmp .ne 9, 3) := by decide +kernel
theorem dk_Is_knownToOne_27 : decode mi_Is_knownToOne.2.1 27 = .ok (.iload_n 2, 1) := by decide +kernel
theorem dk_Is_knownToOne_28 : decode mi_Is_knownToOne.2.1 28 = .ok (.iconst 1, 1) := by decide +kernel
theorem dk_Is_knownToOne_29 : decode mi_Is_knownToOne.2.1 29 = .ok (.iload_n 3, 1) := by decide +kernel
theorem dk_Is_knownToOne_30 : decode mi_Is_knownToOne.2.1 30 = .ok (.ishl, 1) := by decide +kernel
theorem dk_Is_knownToOne_31 : decode mi_Is_knownToOne.2.1 31 = .ok (.ior, 1) := by decide +kernel
theorem dk_Is_knownToOne_32 : decode mi_Is_knownToOne.2.1 32 = .ok (.istore_n 2, 1) := by decide +kernel
theorem dk_Is_knownToOne_33 : decode mi_Is_knownToOne.2.1 33 = .ok (.iinc 3 1, 3) := by decide +kernel
theorem dk_Is_knownToOne_36 : decode mi_Is_knownToOne.2.1 36 = .ok (.goto (-27), 3) := by decide +kernel
theorem dk_Is_knownToOne_39 : decode mi_Is_knownToOne.2.1 39 = .ok (.iload_n 2, 1) := by decide +kernel
theorem dk_Is_knownToOne_40 : decode mi_Is_knownToOne.2.1 40 = .ok (.ireturn, 1) := by decide +kernel
def Is_knownToOne_l9 (o : Nat) (k_39 : Int32 → nm_St → Option (Int32 × nm_St)) : Nat → Int32 → Int32 → Int32 → nm_St → Option (Int32 × nm_St)
  | 0, _, _, _, _ => none
  | n + 1, x1, x2, x3, σ =>
    (if (σ.1 o 7) ≤ x3 then
      k_39 x2 σ
    else
      ((Is_whoKnow o x1 x3 σ).bind fun q3 =>
      (if q3.1 = (1 : Int32) then
        (nm_let ((x2 ||| ((1 : Int32) <<< (x3 &&& 31)))) fun v5 =>
        (Is_knownToOne_l9 o k_39 n) x1 v5 (x3 + (1 : Int32)) q3.2)
      else
        (Is_knownToOne_l9 o k_39 n) x1 x2 (x3 + (1 : Int32)) q3.2)))
set_option maxRecDepth 100000 in
set_option maxHeartbeats 4000000 in
theorem r_Is_knownToOne_l9 (X : nm_X) (F : nm_F) (hF0 : 3 ≤ nm_d F) (o : Nat) (ho : nm_isl o = true) (k_39 : Int32 → nm_St → Option (Int32 × nm_St)) (hk_39 : ∀ (x2 : Int32) (σ : nm_St), Rn X mi_Is_knownToOne F (nm_Qf X F nm_wI) [(2, .int x2)] [] 39 σ (k_39 x2 σ)) : ∀ (n : Nat) (x1 : Int32) (x2 : Int32) (x3 : Int32) (σ : nm_St), Rn X mi_Is_knownToOne F (nm_Qf X F nm_wI) [(0, .ref o), (1, .int x1), (2, .int x2), (3, .int x3)] [] 9 σ (Is_knownToOne_l9 o k_39 n x1 x2 x3 σ) := by
  intro n
  induction n with
  | zero =>
    intro x1 x2 x3 σ
    exact rn_none
  | succ n ih =>
    intro x1 x2 x3 σ
    unfold Is_knownToOne_l9
    refine rn_iload_n (pc := 9) 3 dk_Is_knownToOne_9 rfl rfl ?_
    refine rn_aload_n (pc := 10) 0 dk_Is_knownToOne_10 rfl rfl (nm_rok_isl ho) ?_
    refine gf_Is_34 (pc := 11) o ho rfl dk_Is_knownToOne_11 ?_
    refine rn_icmp_ge (pc := 14) 39 dk_Is_knownToOne_14 (by decide) (fun c2 => ?_) (fun c2 => ?_)
    · exact rn_sub (by rfl) (hk_39 x2 σ)
    · refine rn_aload_n (pc := 17) 0 dk_Is_knownToOne_17 rfl rfl (nm_rok_isl ho) ?_
      refine rn_iload_n (pc := 18) 1 dk_Is_knownToOne_18 rfl rfl ?_
      refine rn_iload_n (pc := 19) 3 dk_Is_knownToOne_19 rfl rfl ?_
      refine cl_Is_92 (pc := 20) (As := [.int x1, .int x3]) (st := []) o ho rfl (ct_Is_whoKnow X o ho x1 x3 σ) (Nat.le_trans (Nat.le_of_ble_eq_true rfl) hF0) rfl rfl (Nat.le_of_ble_eq_true rfl) dk_Is_knownToOne_20 (fun q3 => ?_)
      refine rn_iconst (pc := 23) (1 : Int32) dk_Is_knownToOne_23 cn_i_1 ?_
      refine rn_icmp_ne (pc := 24) 33 dk_Is_knownToOne_24 (by decide) (fun c4 => ?_) (fun c4 => ?_)
      · refine rn_iinc (pc := 33) (1 : Int32) dk_Is_knownToOne_33 cn_i_1 rfl rfl rfl ?_
        refine rn_goto (pc := 36) 9 dk_Is_knownToOne_36 (by decide) ?_
        exact rn_sub (by rfl) (ih x1 x2 (x3 + (1 : Int32)) q3.2)
      · refine rn_iload_n (pc := 27) 2 dk_Is_knownToOne_27 rfl rfl ?_
        refine rn_iconst (pc := 28) (1 : Int32) dk_Is_knownToOne_28 cn_i_1 ?_
        refine rn_iload_n (pc := 29) 3 dk_Is_knownToOne_29 rfl rfl ?_
        refine rn_ishl (pc := 30) dk_Is_knownToOne_30 ?_
        refine rn_ior (pc := 31) dk_Is_knownToOne_31 ?_
        refine rn_leti (fun v5 => ?_)
        refine rn_istore_n (pc := 32) 2 dk_Is_knownToOne_32 rfl rfl rfl ?_
        refine rn_iinc (pc := 33) (1 : Int32) dk_Is_knownToOne_33 cn_i_1 rfl rfl rfl ?_
        refine rn_goto (pc := 36) 9 dk_Is_knownToOne_36 (by decide) ?_
        exact rn_sub (by rfl) (ih x1 v5 (x3 + (1 : Int32)) q3.2)
def Is_knownToOne (o : Nat) (σ : nm_St) : Option (Int32 × nm_St) :=
  ((Is_thoseAlive o σ).bind fun q1 =>
  Is_knownToOne_l9 o (fun (e7 : Int32) (s6 : nm_St) =>
    some (e7, s6)) 400 q1.1 (0 : Int32) (0 : Int32) q1.2)
set_option maxRecDepth 100000 in
set_option maxHeartbeats 4000000 in
theorem ct_Is_knownToOne (X : nm_X) (o : Nat) (ho : nm_isl o = true) (σ : nm_St) : Ct X mi_Is_knownToOne 3 nm_wI [.ref o] σ (Is_knownToOne o σ) := by
  refine Ct.of (by decide +kernel) rfl (fun F hF0 => ?_)
  unfold Is_knownToOne
  refine rn_aload_n (pc := 0) 0 dk_Is_knownToOne_0 rfl rfl (nm_rok_isl ho) ?_
  refine cl_Is_89 (pc := 1) (As := []) (st := []) o ho rfl (ct_Is_thoseAlive X o ho σ) (Nat.le_trans (Nat.le_of_ble_eq_true rfl) hF0) rfl rfl (Nat.le_of_ble_eq_true rfl) dk_Is_knownToOne_1 (fun q1 => ?_)
  refine rn_istore_n (pc := 4) 1 dk_Is_knownToOne_4 rfl rfl rfl ?_
  refine rn_iconst (pc := 5) (0 : Int32) dk_Is_knownToOne_5 cn_i_0 ?_
  refine rn_istore_n (pc := 6) 2 dk_Is_knownToOne_6 rfl rfl rfl ?_
  refine rn_iconst (pc := 7) (0 : Int32) dk_Is_knownToOne_7 cn_i_0 ?_
  refine rn_istore_n (pc := 8) 3 dk_Is_knownToOne_8 rfl rfl rfl ?_
  refine rn_sub (by rfl) (r_Is_knownToOne_l9 X F hF0 o ho _ (fun e7 s6 => ?_) 400 q1.1 (0 : Int32) (0 : Int32) q1.2)
  refine rn_iload_n (pc := 39) 2 dk_Is_knownToOne_39 rfl rfl ?_
  exact rn_iret rfl dk_Is_knownToOne_40
theorem dk_Nm_alone_0 : decode mi_Nm_alone.2.1 0 = .ok (.iload_n 1, 1) := by decide +kernel
theorem dk_Nm_alone_1 : decode mi_Nm_alone.2.1 1 = .ok (.iconst 0, 1) := by decide +kernel
theorem dk_Nm_alone_2 : decode mi_Nm_alone.2.1 2 = .ok (.iconst 1, 1) := by decide +kernel
theorem dk_Nm_alone_3 : decode mi_Nm_alone.2.1 3 = .ok (.invokestatic 144, 3) := by decide +kernel
theorem dk_Nm_alone_6 : decode mi_Nm_alone.2.1 6 = .ok (.ifCond .ne 10, 3) := by decide +kernel
theorem dk_Nm_alone_9 : decode mi_Nm_alone.2.1 9 = .ok (.aload_n 0, 1) := by decide +kernel
theorem dk_Nm_alone_10 : decode mi_Nm_alone.2.1 10 = .ok (.bipush (-5), 2) := by decide +kernel
theorem dk_Nm_alone_12 : decode mi_Nm_alone.2.1 12 = .ok (.invokevirtual 209, 3) := by decide +kernel
theorem dk_Nm_alone_15 : decode mi_Nm_alone.2.1 15 = .ok (.ireturn, 1) := by decide +kernel
theorem dk_Nm_alone_16 : decode mi_Nm_alone.2.1 16 = .ok (.aload_n 0, 1) := by decide +kernel
theorem dk_Nm_alone_17 : decode mi_Nm_alone.2.1 17 = .ok (.getfield 18, 3) := by decide +kernel
theorem dk_Nm_alone_20 : decode mi_Nm_alone.2.1 20 = .ok (.invokevirtual 221, 3) := by decide +kernel
theorem dk_Nm_alone_23 : decode mi_Nm_alone.2.1 23 = .ok (.istore_n 2, 1) := by decide +kernel
theorem dk_Nm_alone_24 : decode mi_Nm_alone.2.1 24 = .ok (.iload_n 1, 1) := by decide +kernel
theorem dk_Nm_alone_25 : decode mi_Nm_alone.2.1 25 = .ok (.ifCond .ne 7, 3) := by decide +kernel
theorem dk_Nm_alone_28 : decode mi_Nm_alone.2.1 28 = .ok (.iload_n 2, 1) := by decide +kernel
theorem dk_Nm_alone_29 : decode mi_Nm_alone.2.1 29 = .ok (.goto 11, 3) := by decide +kernel
theorem dk_Nm_alone_32 : decode mi_Nm_alone.2.1 32 = .ok (.aload_n 0, 1) := by decide +kernel
theorem dk_Nm_alone_33 : decode mi_Nm_alone.2.1 33 = .ok (.getfield 18, 3) := by decide +kernel
theorem dk_Nm_alone_36 : decode mi_Nm_alone.2.1 36 = .ok (.iload_n 2, 1) := by decide +kernel
theorem dk_Nm_alone_37 : decode mi_Nm_alone.2.1 37 = .ok (.invokevirtual 224, 3) := by decide +kernel
theorem dk_Nm_alone_40 : decode mi_Nm_alone.2.1 40 = .ok (.ireturn, 1) := by decide +kernel
def Nm_alone (p1 : Int32) (σ : nm_St) : Option (Int32 × nm_St) :=
  ((Nm_isWithin p1 (0 : Int32) (1 : Int32) σ).bind fun q1 =>
  (if q1.1 = 0 then
    ((Nm_refuseFar (-5 : Int32) q1.2).bind fun q6 =>
    some (q6.1, q6.2))
  else
    ((Is_knownToOne 2 q1.2).bind fun q3 =>
    (if p1 = 0 then
      some (q3.1, q3.2)
    else
      ((Is_firstWhoKnowsMost 2 q3.1 q3.2).bind fun q5 =>
      some (q5.1, q5.2))))))
set_option maxRecDepth 100000 in
set_option maxHeartbeats 4000000 in
theorem ct_Nm_alone (X : nm_X) (p1 : Int32) (σ : nm_St) : Ct X mi_Nm_alone 4 nm_wI [.ref 0, .int p1] σ (Nm_alone p1 σ) := by
  refine Ct.of (by decide +kernel) rfl (fun F hF0 => ?_)
  unfold Nm_alone
  refine rn_iload_n (pc := 0) 1 dk_Nm_alone_0 rfl rfl ?_
  refine rn_iconst (pc := 1) (0 : Int32) dk_Nm_alone_1 cn_i_0 ?_
  refine rn_iconst (pc := 2) (1 : Int32) dk_Nm_alone_2 cn_i_1 ?_
  refine cl_Nm_144 (pc := 3) (As := [.int p1, .int (0 : Int32), .int (1 : Int32)]) (st := []) rfl (ct_Nm_isWithin X p1 (0 : Int32) (1 : Int32) σ) (Nat.le_trans (Nat.le_of_ble_eq_true rfl) hF0) rfl rfl (Nat.le_of_ble_eq_true rfl) dk_Nm_alone_3 (fun q1 => ?_)
  refine rn_if_ne (pc := 6) 16 dk_Nm_alone_6 (by decide) (fun c2 => ?_) (fun c2 => ?_)
  · refine rn_aload_n (pc := 16) 0 dk_Nm_alone_16 rfl rfl rfl ?_
    refine gf_Nm_18 (pc := 17) rfl dk_Nm_alone_17 ?_
    refine cl_Nm_221 (pc := 20) (As := []) (st := []) 2 rfl rfl (ct_Is_knownToOne X 2 rfl q1.2) (Nat.le_trans (Nat.le_of_ble_eq_true rfl) hF0) rfl rfl (Nat.le_of_ble_eq_true rfl) dk_Nm_alone_20 (fun q3 => ?_)
    refine rn_istore_n (pc := 23) 2 dk_Nm_alone_23 rfl rfl rfl ?_
    refine rn_iload_n (pc := 24) 1 dk_Nm_alone_24 rfl rfl ?_
    refine rn_if_ne (pc := 25) 32 dk_Nm_alone_25 (by decide) (fun c4 => ?_) (fun c4 => ?_)
    · refine rn_aload_n (pc := 32) 0 dk_Nm_alone_32 rfl rfl rfl ?_
      refine gf_Nm_18 (pc := 33) rfl dk_Nm_alone_33 ?_
      refine rn_iload_n (pc := 36) 2 dk_Nm_alone_36 rfl rfl ?_
      refine cl_Nm_224 (pc := 37) (As := [.int q3.1]) (st := []) 2 rfl rfl (ct_Is_firstWhoKnowsMost X 2 rfl q3.1 q3.2) (Nat.le_trans (Nat.le_of_ble_eq_true rfl) hF0) rfl rfl (Nat.le_of_ble_eq_true rfl) dk_Nm_alone_37 (fun q5 => ?_)
      exact rn_iret rfl dk_Nm_alone_40
    · refine rn_iload_n (pc := 28) 2 dk_Nm_alone_28 rfl rfl ?_
      refine rn_goto (pc := 29) 40 dk_Nm_alone_29 (by decide) ?_
      exact rn_iret rfl dk_Nm_alone_40
  · refine rn_aload_n (pc := 9) 0 dk_Nm_alone_9 rfl rfl rfl ?_
    refine rn_bipush (pc := 10) (-5 : Int32) dk_Nm_alone_10 cn_b_m5 ?_
    refine cl_Nm_209 (pc := 12) (As := [.int (-5 : Int32)]) (st := []) rfl (ct_Nm_refuseFar X (-5 : Int32) q1.2) (Nat.le_trans (Nat.le_of_ble_eq_true rfl) hF0) rfl rfl (Nat.le_of_ble_eq_true rfl) dk_Nm_alone_12 (fun q6 => ?_)
    exact rn_iret rfl dk_Nm_alone_15
theorem dk_Is_fewestAtHomeForAPart_0 : decode mi_Is_fewestAtHomeForAPart.2.1 0 = .ok (.aload_n 0, 1) := by decide +kernel
theorem dk_Is_fewestAtHomeForAPart_1 : decode mi_Is_fewestAtHomeForAPart.2.1 1 = .ok (.iconst 0, 1) := by decide +kernel
theorem dk_Is_fewestAtHomeForAPart_2 : decode mi_Is_fewestAtHomeForAPart.2.1 2 = .ok (.invokevirtual 83, 3) := by decide +kernel
theorem dk_Is_fewestAtHomeForAPart_5 : decode mi_Is_fewestAtHomeForAPart.2.1 5 = .ok (.istore_n 1, 1) := by decide +kernel
theorem dk_Is_fewestAtHomeForAPart_6 : decode mi_Is_fewestAtHomeForAPart.2.1 6 = .ok (.bipush 8, 2) := by decide +kernel
theorem dk_Is_fewestAtHomeForAPart_8 : decode mi_Is_fewestAtHomeForAPart.2.1 8 = .ok (.istore_n 2, 1) := by decide +kernel
theorem dk_Is_fewestAtHomeForAPart_9 : decode mi_Is_fewestAtHomeForAPart.2.1 9 = .ok (.iconst 0, 1) := by decide +kernel
theorem dk_Is_fewestAtHomeForAPart_10 : decode mi_Is_fewestAtHomeForAPart.2.1 10 = .ok (.istore_n 3, 1) := by decide +kernel
theorem dk_Is_fewestAtHomeForAPart_11 : decode mi_Is_fewestAtHomeForAPart.2.1 11 = .ok (.iload_n 3, 1) := by decide +kernel
theorem dk_Is_fewestAtHomeForAPart_12 : decode mi_Is_fewestAtHomeForAPart.2.1 12 = .ok (.aload_n 0, 1) := by decide +kernel
theorem dk_Is_fewestAtHomeForAPart_13 : decode mi_Is_fewestAtHomeForAPart.2.1 13 = .ok (.getfield 34, 3) := by decide +kernel
theorem dk_Is_fewestAtHomeForAPart_16 : decode mi_Is_fewestAtHomeForAPart.2.1 16 = .ok (.if_icmp .ge 20, 3) := by decide +kernel
theorem dk_Is_fewestAtHomeForAPart_19 : decode mi_Is_fewestAtHomeForAPart.2.1 19 = .ok (.iload_n 2, 1) := by decide +kernel
theorem dk_Is_fewestAtHomeForAPart_20 : decode mi_Is_fewestAtHomeForAPart.2.1 20 = .ok (.aload_n 0, 1) := by decide +kernel
theorem dk_Is_fewestAtHomeForAPart_21 : decode mi_Is_fewestAtHomeForAPart.2.1 21 = .ok (.iload_n 1, 1) := by decide +kernel
theorem dk_Is_fewestAtHomeForAPart_22 : decode mi_Is_fewestAtHomeForAPart.2.1 22 = .ok (.iload_n 3, 1) := by decide +kernel
theorem dk_Is_fewestAtHomeForAPart_23 : decode mi_Is_fewestAtHomeForAPart.2.1 23 = .ok (.invokevirtual 92, 3) := by decide +kernel
theorem dk_Is_fewestAtHomeForAPart_26 : decode mi_Is_fewestAtHomeForAPart.2.1 26 = .ok (.invokestatic 101, 3) := by decide +kernel
theorem dk_Is_fewestAtHomeForAPart_29 : decode mi_Is_fewestAtHomeForAPart.2.1 29 = .ok (.istore_n 2, 1) := by decide +kernel
theorem dk_Is_fewestAtHomeForAPart_30 : decode mi_Is_fewestAtHomeForAPart.2.1 30 = .ok (.iinc 3 1, 3) := by decide +kernel
theorem dk_Is_fewestAtHomeForAPart_33 : decode mi_Is_fewestAtHomeForAPart.2.1 33 = .ok (.goto (-22), 3) := by decide +kernel
theorem dk_Is_fewestAtHomeForAPart_36 : decode mi_Is_fewestAtHomeForAPart.2.1 36 = .ok (.iload_n 2, 1) := by decide +kernel
theorem dk_Is_fewestAtHomeForAPart_37 : decode mi_Is_fewestAtHomeForAPart.2.1 37 = .ok (.ireturn, 1) := by decide +kernel
def Is_fewestAtHomeForAPart_l11 (o : Nat) (k_36 : Int32 → nm_St → Option (Int32 × nm_St)) : Nat → Int32 → Int32 → Int32 → nm_St → Option (Int32 × nm_St)
  | 0, _, _, _, _ => none
  | n + 1, x1, x2, x3, σ =>
    (if (σ.1 o 7) ≤ x3 then
      k_36 x2 σ
    else
      ((Is_whoKnow o x1 x3 σ).bind fun q3 =>
      (nm_let ((if q3.1 < x2 then q3.1 else x2)) fun v4 =>
      (Is_fewestAtHomeForAPart_l11 o k_36 n) x1 v4 (x3 + (1 : Int32)) q3.2)))
set_option maxRecDepth 100000 in
set_option maxHeartbeats 4000000 in
theorem r_Is_fewestAtHomeForAPart_l11 (X : nm_X) (F : nm_F) (hF0 : 2 ≤ nm_d F) (o : Nat) (ho : nm_isl o = true) (k_36 : Int32 → nm_St → Option (Int32 × nm_St)) (hk_36 : ∀ (x2 : Int32) (σ : nm_St), Rn X mi_Is_fewestAtHomeForAPart F (nm_Qf X F nm_wI) [(2, .int x2)] [] 36 σ (k_36 x2 σ)) : ∀ (n : Nat) (x1 : Int32) (x2 : Int32) (x3 : Int32) (σ : nm_St), Rn X mi_Is_fewestAtHomeForAPart F (nm_Qf X F nm_wI) [(0, .ref o), (1, .int x1), (2, .int x2), (3, .int x3)] [] 11 σ (Is_fewestAtHomeForAPart_l11 o k_36 n x1 x2 x3 σ) := by
  intro n
  induction n with
  | zero =>
    intro x1 x2 x3 σ
    exact rn_none
  | succ n ih =>
    intro x1 x2 x3 σ
    unfold Is_fewestAtHomeForAPart_l11
    refine rn_iload_n (pc := 11) 3 dk_Is_fewestAtHomeForAPart_11 rfl rfl ?_
    refine rn_aload_n (pc := 12) 0 dk_Is_fewestAtHomeForAPart_12 rfl rfl (nm_rok_isl ho) ?_
    refine gf_Is_34 (pc := 13) o ho rfl dk_Is_fewestAtHomeForAPart_13 ?_
    refine rn_icmp_ge (pc := 16) 36 dk_Is_fewestAtHomeForAPart_16 (by decide) (fun c2 => ?_) (fun c2 => ?_)
    · exact rn_sub (by rfl) (hk_36 x2 σ)
    · refine rn_iload_n (pc := 19) 2 dk_Is_fewestAtHomeForAPart_19 rfl rfl ?_
      refine rn_aload_n (pc := 20) 0 dk_Is_fewestAtHomeForAPart_20 rfl rfl (nm_rok_isl ho) ?_
      refine rn_iload_n (pc := 21) 1 dk_Is_fewestAtHomeForAPart_21 rfl rfl ?_
      refine rn_iload_n (pc := 22) 3 dk_Is_fewestAtHomeForAPart_22 rfl rfl ?_
      refine cl_Is_92 (pc := 23) (As := [.int x1, .int x3]) (st := [.int x2]) o ho rfl (ct_Is_whoKnow X o ho x1 x3 σ) (Nat.le_trans (Nat.le_of_ble_eq_true rfl) hF0) rfl rfl (Nat.le_of_ble_eq_true rfl) dk_Is_fewestAtHomeForAPart_23 (fun q3 => ?_)
      refine rn_mmin (pc := 26) (Nat.le_trans (Nat.le_of_ble_eq_true rfl) hF0) wd_779 (Nat.le_of_ble_eq_true rfl) dk_Is_fewestAtHomeForAPart_26 ?_
      refine rn_leti (fun v4 => ?_)
      refine rn_istore_n (pc := 29) 2 dk_Is_fewestAtHomeForAPart_29 rfl rfl rfl ?_
      refine rn_iinc (pc := 30) (1 : Int32) dk_Is_fewestAtHomeForAPart_30 cn_i_1 rfl rfl rfl ?_
      refine rn_goto (pc := 33) 11 dk_Is_fewestAtHomeForAPart_33 (by decide) ?_
      exact rn_sub (by rfl) (ih x1 v4 (x3 + (1 : Int32)) q3.2)
def Is_fewestAtHomeForAPart (o : Nat) (σ : nm_St) : Option (Int32 × nm_St) :=
  ((Is_thoseAt o (0 : Int32) σ).bind fun q1 =>
  Is_fewestAtHomeForAPart_l11 o (fun (e6 : Int32) (s5 : nm_St) =>
    some (e6, s5)) 400 q1.1 (8 : Int32) (0 : Int32) q1.2)
set_option maxRecDepth 100000 in
set_option maxHeartbeats 4000000 in
theorem ct_Is_fewestAtHomeForAPart (X : nm_X) (o : Nat) (ho : nm_isl o = true) (σ : nm_St) : Ct X mi_Is_fewestAtHomeForAPart 2 nm_wI [.ref o] σ (Is_fewestAtHomeForAPart o σ) := by
  refine Ct.of (by decide +kernel) rfl (fun F hF0 => ?_)
  unfold Is_fewestAtHomeForAPart
  refine rn_aload_n (pc := 0) 0 dk_Is_fewestAtHomeForAPart_0 rfl rfl (nm_rok_isl ho) ?_
  refine rn_iconst (pc := 1) (0 : Int32) dk_Is_fewestAtHomeForAPart_1 cn_i_0 ?_
  refine cl_Is_83 (pc := 2) (As := [.int (0 : Int32)]) (st := []) o ho rfl (ct_Is_thoseAt X o ho (0 : Int32) σ) (Nat.le_trans (Nat.le_of_ble_eq_true rfl) hF0) rfl rfl (Nat.le_of_ble_eq_true rfl) dk_Is_fewestAtHomeForAPart_2 (fun q1 => ?_)
  refine rn_istore_n (pc := 5) 1 dk_Is_fewestAtHomeForAPart_5 rfl rfl rfl ?_
  refine rn_bipush (pc := 6) (8 : Int32) dk_Is_fewestAtHomeForAPart_6 cn_b_8 ?_
  refine rn_istore_n (pc := 8) 2 dk_Is_fewestAtHomeForAPart_8 rfl rfl rfl ?_
  refine rn_iconst (pc := 9) (0 : Int32) dk_Is_fewestAtHomeForAPart_9 cn_i_0 ?_
  refine rn_istore_n (pc := 10) 3 dk_Is_fewestAtHomeForAPart_10 rfl rfl rfl ?_
  refine rn_sub (by rfl) (r_Is_fewestAtHomeForAPart_l11 X F hF0 o ho _ (fun e6 s5 => ?_) 400 q1.1 (8 : Int32) (0 : Int32) q1.2)
  refine rn_iload_n (pc := 36) 2 dk_Is_fewestAtHomeForAPart_36 rfl rfl ?_
  exact rn_iret rfl dk_Is_fewestAtHomeForAPart_37
theorem dk_Nm_without_0 : decode mi_Nm_without.2.1 0 = .ok (.iload_n 1, 1) := by decide +kernel
theorem dk_Nm_without_1 : decode mi_Nm_without.2.1 1 = .ok (.iconst 0, 1) := by decide +kernel
theorem dk_Nm_without_2 : decode mi_Nm_without.2.1 2 = .ok (.bipush 8, 2) := by decide +kernel
theorem dk_Nm_without_4 : decode mi_Nm_without.2.1 4 = .ok (.invokestatic 144, 3) := by decide +kernel
theorem dk_Nm_without_7 : decode mi_Nm_without.2.1 7 = .ok (.ifCond .ne 10, 3) := by decide +kernel
theorem dk_Nm_without_10 : decode mi_Nm_without.2.1 10 = .ok (.aload_n 0, 1) := by decide +kernel
theorem dk_Nm_without_11 : decode mi_Nm_without.2.1 11 = .ok (.bipush (-6), 2) := by decide +kernel
theorem dk_Nm_without_13 : decode mi_Nm_without.2.1 13 = .ok (.invokevirtual 73, 3) := by decide +kernel
theorem dk_Nm_without_16 : decode mi_Nm_without.2.1 16 = .ok (.ireturn, 1) := by decide +kernel
theorem dk_Nm_without_17 : decode mi_Nm_without.2.1 17 = .ok (.aload_n 0, 1) := by decide +kernel
theorem dk_Nm_without_18 : decode mi_Nm_without.2.1 18 = .ok (.getfield 18, 3) := by decide +kernel
theorem dk_Nm_without_21 : decode mi_Nm_without.2.1 21 = .ok (.invokevirtual 227, 3) := by decide +kernel
theorem dk_Nm_without_24 : decode mi_Nm_without.2.1 24 = .ok (.iload_n 1, 1) := by decide +kernel
theorem dk_Nm_without_25 : decode mi_Nm_without.2.1 25 = .ok (.if_icmp .le 7, 3) := by decide +kernel
theorem dk_Nm_without_28 : decode mi_Nm_without.2.1 28 = .ok (.iconst 1, 1) := by decide +kernel
theorem dk_Nm_without_29 : decode mi_Nm_without.2.1 29 = .ok (.goto 4, 3) := by decide +kernel
theorem dk_Nm_without_32 : decode mi_Nm_without.2.1 32 = .ok (.iconst 0, 1) := by decide +kernel
theorem dk_Nm_without_33 : decode mi_Nm_without.2.1 33 = .ok (.ireturn, 1) := by decide +kernel
def Nm_without (p1 : Int32) (σ : nm_St) : Option (Int32 × nm_St) :=
  ((Nm_isWithin p1 (0 : Int32) (8 : Int32) σ).bind fun q1 =>
  (if q1.1 = 0 then
    ((Nm_refuse (-6 : Int32) q1.2).bind fun q5 =>
    some (q5.1, q5.2))
  else
    ((Is_fewestAtHomeForAPart 2 q1.2).bind fun q3 =>
    (if q3.1 ≤ p1 then
      some ((0 : Int32), q3.2)
    else
      some ((1 : Int32), q3.2)))))
set_option maxRecDepth 100000 in
set_option maxHeartbeats 4000000 in
theorem ct_Nm_without (X : nm_X) (p1 : Int32) (σ : nm_St) : Ct X mi_Nm_without 3 nm_wI [.ref 0, .int p1] σ (Nm_without p1 σ) := by
  refine Ct.of (by decide +kernel) rfl (fun F hF0 => ?_)
  unfold Nm_without
  refine rn_iload_n (pc := 0) 1 dk_Nm_without_0 rfl rfl ?_
  refine rn_iconst (pc := 1) (0 : Int32) dk_Nm_without_1 cn_i_0 ?_
  refine rn_bipush (pc := 2) (8 : Int32) dk_Nm_without_2 cn_b_8 ?_
  refine cl_Nm_144 (pc := 4) (As := [.int p1, .int (0 : Int32), .int (8 : Int32)]) (st := []) rfl (ct_Nm_isWithin X p1 (0 : Int32) (8 : Int32) σ) (Nat.le_trans (Nat.le_of_ble_eq_true rfl) hF0) rfl rfl (Nat.le_of_ble_eq_true rfl) dk_Nm_without_4 (fun q1 => ?_)
  refine rn_if_ne (pc := 7) 17 dk_Nm_without_7 (by decide) (fun c2 => ?_) (fun c2 => ?_)
  · refine rn_aload_n (pc := 17) 0 dk_Nm_without_17 rfl rfl rfl ?_
    refine gf_Nm_18 (pc := 18) rfl dk_Nm_without_18 ?_
    refine cl_Nm_227 (pc := 21) (As := []) (st := []) 2 rfl rfl (ct_Is_fewestAtHomeForAPart X 2 rfl q1.2) (Nat.le_trans (Nat.le_of_ble_eq_true rfl) hF0) rfl rfl (Nat.le_of_ble_eq_true rfl) dk_Nm_without_21 (fun q3 => ?_)
    refine rn_iload_n (pc := 24) 1 dk_Nm_without_24 rfl rfl ?_
    refine rn_icmp_le (pc := 25) 32 dk_Nm_without_25 (by decide) (fun c4 => ?_) (fun c4 => ?_)
    · refine rn_iconst (pc := 32) (0 : Int32) dk_Nm_without_32 cn_i_0 ?_
      exact rn_iret rfl dk_Nm_without_33
    · refine rn_iconst (pc := 28) (1 : Int32) dk_Nm_without_28 cn_i_1 ?_
      refine rn_goto (pc := 29) 33 dk_Nm_without_29 (by decide) ?_
      exact rn_iret rfl dk_Nm_without_33
  · refine rn_aload_n (pc := 10) 0 dk_Nm_without_10 rfl rfl rfl ?_
    refine rn_bipush (pc := 11) (-6 : Int32) dk_Nm_without_11 cn_b_m6 ?_
    refine cl_Nm_73 (pc := 13) (As := [.int (-6 : Int32)]) (st := []) rfl (ct_Nm_refuse X (-6 : Int32) q1.2) (Nat.le_trans (Nat.le_of_ble_eq_true rfl) hF0) rfl rfl (Nat.le_of_ble_eq_true rfl) dk_Nm_without_13 (fun q5 => ?_)
    exact rn_iret rfl dk_Nm_without_16
theorem dk_Se_anyMakes_0 : decode mi_Se_anyMakes.2.1 0 = .ok (.iconst 0, 1) := by decide +kernel
theorem dk_Se_anyMakes_1 : decode mi_Se_anyMakes.2.1 1 = .ok (.istore_n 3, 1) := by decide +kernel
theorem dk_Se_anyMakes_2 : decode mi_Se_anyMakes.2.1 2 = .ok (.iload_n 3, 1) := by decide +kernel
theorem dk_Se_anyMakes_3 : decode mi_Se_anyMakes.2.1 3 = .ok (.aload_n 0, 1) := by decide +kernel
theorem dk_Se_anyMakes_4 : decode mi_Se_anyMakes.2.1 4 = .ok (.getfield 21, 3) := by decide +kernel
theorem dk_Se_anyMakes_7 : decode mi_Se_anyMakes.2.1 7 = .ok (.if_icmp .ge 34, 3) := by decide +kernel
theorem dk_Se_anyMakes_10 : decode mi_Se_anyMakes.2.1 10 = .ok (.aload_n 0, 1) := by decide +kernel
theorem dk_Se_anyMakes_11 : decode mi_Se_anyMakes.2.1 11 = .ok (.getfield 18, 3) := by decide +kernel
theorem dk_Se_anyMakes_14 : decode mi_Se_anyMakes.2.1 14 = .ok (.iload_n 3, 1) := by decide +kernel
theorem dk_Se_anyMakes_15 : decode mi_Se_anyMakes.2.1 15 = .ok (.iaload, 1) := by decide +kernel
theorem dk_Se_anyMakes_16 : decode mi_Se_anyMakes.2.1 16 = .ok (.iload_n 2, 1) := by decide +kernel
theorem dk_Se_anyMakes_17 : decode mi_Se_anyMakes.2.1 17 = .ok (.if_icmp .ne 18, 3) := by decide +kernel
theorem dk_Se_anyMakes_20 : decode mi_Se_anyMakes.2.1 20 = .ok (.aload_n 0, 1) := by decide +kernel
theorem dk_Se_anyMakes_21 : decode mi_Se_anyMakes.2.1 21 = .ok (.getfield 11, 3) := by decide +kernel
theorem dk_Se_anyMakes_24 : decode mi_Se_anyMakes.2.1 24 = .ok (.iload_n 3, 1) := by decide +kernel
theorem dk_Se_anyMakes_25 : decode mi_Se_anyMakes.2.1 25 = .ok (.iaload, 1) := by decide +kernel
theorem dk_Se_anyMakes_26 : decode mi_Se_anyMakes.2.1 26 = .ok (.invokestatic 42, 3) := by decide +kernel
theorem dk_Se_anyMakes_29 : decode mi_Se_anyMakes.2.1 29 = .ok (.iload_n 1, 1) := by decide +kernel
theorem dk_Se_anyMakes_30 : decode mi_Se_anyMakes.2.1 30 = .ok (.if_icmp .gt 5, 3) := by decide +kernel
theorem dk_Se_anyMakes_33 : decode mi_Se_anyMakes.2.1 33 = .ok (.iconst 1, 1) := by decide +kernel
theorem dk_Se_anyMakes_34 : decode mi_Se_anyMakes.2.1 34 = .ok (.ireturn, 1) := by decide +kernel
theorem dk_Se_anyMakes_35 : decode mi_Se_anyMakes.2.1 35 = .ok (.iinc 3 1, 3) := by decide +kernel
theorem dk_Se_anyMakes_38 : decode mi_Se_anyMakes.2.1 38 = .ok (.goto (-36), 3) := by decide +kernel
theorem dk_Se_anyMakes_41 : decode mi_Se_anyMakes.2.1 41 = .ok (.iconst 0, 1) := by decide +kernel
theorem dk_Se_anyMakes_42 : decode mi_Se_anyMakes.2.1 42 = .ok (.ireturn, 1) := by decide +kernel
def Se_anyMakes_l2 (k_41 : nm_St → Option (Int32 × nm_St)) : Nat → Int32 → Int32 → Int32 → nm_St → Option (Int32 × nm_St)
  | 0, _, _, _, _ => none
  | n + 1, x1, x2, x3, σ =>
    (if (σ.1 23 3) ≤ x3 then
      k_41 σ
    else
      (nm_g (nm_in x3 256) (
      (if (σ.1 26 x3.toNatClampNeg) = x2 then
        (nm_g (nm_in x3 256) (
        ((Ji_bitCount (σ.1 24 x3.toNatClampNeg) σ).bind fun q5 =>
        (if x1 < q5.1 then
          (Se_anyMakes_l2 k_41 n) x1 x2 (x3 + (1 : Int32)) q5.2
        else
          some ((1 : Int32), q5.2)))))
      else
        (Se_anyMakes_l2 k_41 n) x1 x2 (x3 + (1 : Int32)) σ))))
set_option maxRecDepth 100000 in
set_option maxHeartbeats 4000000 in
theorem r_Se_anyMakes_l2 (X : nm_X) (F : nm_F) (hF0 : 1 ≤ nm_d F) (k_41 : nm_St → Option (Int32 × nm_St)) (hk_41 : ∀ (σ : nm_St), Rn X mi_Se_anyMakes F (nm_Qf X F nm_wI) [] [] 41 σ (k_41 σ)) : ∀ (n : Nat) (x1 : Int32) (x2 : Int32) (x3 : Int32) (σ : nm_St), Rn X mi_Se_anyMakes F (nm_Qf X F nm_wI) [(0, .ref 23), (1, .int x1), (2, .int x2), (3, .int x3)] [] 2 σ (Se_anyMakes_l2 k_41 n x1 x2 x3 σ) := by
  intro n
  induction n with
  | zero =>
    intro x1 x2 x3 σ
    exact rn_none
  | succ n ih =>
    intro x1 x2 x3 σ
    unfold Se_anyMakes_l2
    refine rn_iload_n (pc := 2) 3 dk_Se_anyMakes_2 rfl rfl ?_
    refine rn_aload_n (pc := 3) 0 dk_Se_anyMakes_3 rfl rfl rfl ?_
    refine gf_Se_21 (pc := 4) rfl dk_Se_anyMakes_4 ?_
    refine rn_icmp_ge (pc := 7) 41 dk_Se_anyMakes_7 (by decide) (fun c1 => ?_) (fun c1 => ?_)
    · exact rn_sub (by rfl) (hk_41 σ)
    · refine rn_aload_n (pc := 10) 0 dk_Se_anyMakes_10 rfl rfl rfl ?_
      refine gf_Se_18 (pc := 11) rfl dk_Se_anyMakes_11 ?_
      refine rn_iload_n (pc := 14) 3 dk_Se_anyMakes_14 rfl rfl ?_
      refine rn_iaload (pc := 15) rfl dk_Se_anyMakes_15 (fun g2 => ?_)
      refine rn_iload_n (pc := 16) 2 dk_Se_anyMakes_16 rfl rfl ?_
      refine rn_icmp_ne (pc := 17) 35 dk_Se_anyMakes_17 (by decide) (fun c3 => ?_) (fun c3 => ?_)
      · refine rn_iinc (pc := 35) (1 : Int32) dk_Se_anyMakes_35 cn_i_1 rfl rfl rfl ?_
        refine rn_goto (pc := 38) 2 dk_Se_anyMakes_38 (by decide) ?_
        exact rn_sub (by rfl) (ih x1 x2 (x3 + (1 : Int32)) σ)
      · refine rn_aload_n (pc := 20) 0 dk_Se_anyMakes_20 rfl rfl rfl ?_
        refine gf_Se_11 (pc := 21) rfl dk_Se_anyMakes_21 ?_
        refine rn_iload_n (pc := 24) 3 dk_Se_anyMakes_24 rfl rfl ?_
        refine rn_iaload (pc := 25) rfl dk_Se_anyMakes_25 (fun g4 => ?_)
        refine cl_Se_42 (pc := 26) (As := [.int (σ.1 24 x3.toNatClampNeg)]) (st := []) rfl (ct_Ji_bitCount X (σ.1 24 x3.toNatClampNeg) σ) (Nat.le_trans (Nat.le_of_ble_eq_true rfl) hF0) rfl rfl (Nat.le_of_ble_eq_true rfl) dk_Se_anyMakes_26 (fun q5 => ?_)
        refine rn_iload_n (pc := 29) 1 dk_Se_anyMakes_29 rfl rfl ?_
        refine rn_icmp_gt (pc := 30) 35 dk_Se_anyMakes_30 (by decide) (fun c6 => ?_) (fun c6 => ?_)
        · refine rn_iinc (pc := 35) (1 : Int32) dk_Se_anyMakes_35 cn_i_1 rfl rfl rfl ?_
          refine rn_goto (pc := 38) 2 dk_Se_anyMakes_38 (by decide) ?_
          exact rn_sub (by rfl) (ih x1 x2 (x3 + (1 : Int32)) q5.2)
        · refine rn_iconst (pc := 33) (1 : Int32) dk_Se_anyMakes_33 cn_i_1 ?_
          exact rn_zret (ty := .boolean) rfl rfl dk_Se_anyMakes_34
def Se_anyMakes (p1 : Int32) (p2 : Int32) (σ : nm_St) : Option (Int32 × nm_St) :=
  Se_anyMakes_l2 (fun (s7 : nm_St) =>
    some ((0 : Int32), s7)) 400 p1 p2 (0 : Int32) σ
set_option maxRecDepth 100000 in
set_option maxHeartbeats 4000000 in
theorem ct_Se_anyMakes (X : nm_X) (p1 : Int32) (p2 : Int32) (σ : nm_St) : Ct X mi_Se_anyMakes 1 nm_wI [.ref 23, .int p1, .int p2] σ (Se_anyMakes p1 p2 σ) := by
  refine Ct.of (by decide +kernel) rfl (fun F hF0 => ?_)
  unfold Se_anyMakes
  refine rn_iconst (pc := 0) (0 : Int32) dk_Se_anyMakes_0 cn_i_0 ?_
  refine rn_istore_n (pc := 1) 3 dk_Se_anyMakes_1 rfl rfl rfl ?_
  refine rn_sub (by rfl) (r_Se_anyMakes_l2 X F hF0 _ (fun s7 => ?_) 400 p1 p2 (0 : Int32) σ)
  refine rn_iconst (pc := 41) (0 : Int32) dk_Se_anyMakes_41 cn_i_0 ?_
  exact rn_zret (ty := .boolean) rfl rfl dk_Se_anyMakes_42
theorem dk_Nm_sold_0 : decode mi_Nm_sold.2.1 0 = .ok (.iload_n 1, 1) := by decide +kernel
theorem dk_Nm_sold_1 : decode mi_Nm_sold.2.1 1 = .ok (.iconst 1, 1) := by decide +kernel
theorem dk_Nm_sold_2 : decode mi_Nm_sold.2.1 2 = .ok (.bipush 8, 2) := by decide +kernel
theorem dk_Nm_sold_4 : decode mi_Nm_sold.2.1 4 = .ok (.invokestatic 144, 3) := by decide +kernel
theorem dk_Nm_sold_7 : decode mi_Nm_sold.2.1 7 = .ok (.ifCond .ne 10, 3) := by decide +kernel
theorem dk_Nm_sold_10 : decode mi_Nm_sold.2.1 10 = .ok (.aload_n 0, 1) := by decide +kernel
theorem dk_Nm_sold_11 : decode mi_Nm_sold.2.1 11 = .ok (.bipush (-6), 2) := by decide +kernel
theorem dk_Nm_sold_13 : decode mi_Nm_sold.2.1 13 = .ok (.invokevirtual 73, 3) := by decide +kernel
theorem dk_Nm_sold_16 : decode mi_Nm_sold.2.1 16 = .ok (.ireturn, 1) := by decide +kernel
theorem dk_Nm_sold_17 : decode mi_Nm_sold.2.1 17 = .ok (.aload_n 0, 1) := by decide +kernel
theorem dk_Nm_sold_18 : decode mi_Nm_sold.2.1 18 = .ok (.getfield 31, 3) := by decide +kernel
theorem dk_Nm_sold_21 : decode mi_Nm_sold.2.1 21 = .ok (.aload_n 0, 1) := by decide +kernel
theorem dk_Nm_sold_22 : decode mi_Nm_sold.2.1 22 = .ok (.getfield 18, 3) := by decide +kernel
theorem dk_Nm_sold_25 : decode mi_Nm_sold.2.1 25 = .ok (.aload_n 0, 1) := by decide +kernel
theorem dk_Nm_sold_26 : decode mi_Nm_sold.2.1 26 = .ok (.getfield 18, 3) := by decide +kernel
theorem dk_Nm_sold_29 : decode mi_Nm_sold.2.1 29 = .ok (.invokevirtual 230, 3) := by decide +kernel
theorem dk_Nm_sold_32 : decode mi_Nm_sold.2.1 32 = .ok (.invokevirtual 202, 3) := by decide +kernel
theorem dk_Nm_sold_35 : decode mi_Nm_sold.2.1 35 = .ok (.aload_n 0, 1) := by decide +kernel
theorem dk_Nm_sold_36 : decode mi_Nm_sold.2.1 36 = .ok (.getfield 31, 3) := by decide +kernel
theorem dk_Nm_sold_39 : decode mi_Nm_sold.2.1 39 = .ok (.iload_n 1, 1) := by decide +kernel
theorem dk_Nm_sold_40 : decode mi_Nm_sold.2.1 40 = .ok (.aload_n 0, 1) := by decide +kernel
theorem dk_Nm_sold_41 : decode mi_Nm_sold.2.1 41 = .ok (.getfield 18, 3) := by decide +kernel
theorem dk_Nm_sold_44 : decode mi_Nm_sold.2.1 44 = .ok (.invokevirtual 193, 3) := by decide +kernel
theorem dk_Nm_sold_47 : decode mi_Nm_sold.2.1 47 = .ok (.invokevirtual 233, 3) := by decide +kernel
theorem dk_Nm_sold_50 : decode mi_Nm_sold.2.1 50 = .ok (.ifCond .eq 7, 3) := by decide +kernel
theorem dk_Nm_sold_53 : decode mi_Nm_sold.2.1 53 = .ok (.iconst 1, 1) := by decide +kernel
theorem dk_Nm_sold_54 : decode mi_Nm_sold.2.1 54 = .ok (.goto 4, 3) := by decide +kernel
theorem dk_Nm_sold_57 : decode mi_Nm_sold.2.1 57 = .ok (.iconst 0, 1) := by decide +kernel
theorem dk_Nm_sold_58 : decode mi_Nm_sold.2.1 58 = .ok (.ireturn, 1) := by decide +kernel
def Nm_sold (p1 : Int32) (σ : nm_St) : Option (Int32 × nm_St) :=
  ((Nm_isWithin p1 (1 : Int32) (8 : Int32) σ).bind fun q1 =>
  (if q1.1 = 0 then
    ((Nm_refuse (-6 : Int32) q1.2).bind fun q8 =>
    some (q8.1, q8.2))
  else
    ((Is_thoseAlive 2 q1.2).bind fun q3 =>
    ((Se_layOut 2 q3.1 q3.2).bind fun q4 =>
    ((Is_allParts 2 q4.2).bind fun q5 =>
    ((Se_anyMakes p1 q5.1 q5.2).bind fun q6 =>
    (if q6.1 = 0 then
      some ((0 : Int32), q6.2)
    else
      some ((1 : Int32), q6.2))))))))
set_option maxRecDepth 100000 in
set_option maxHeartbeats 4000000 in
theorem ct_Nm_sold (X : nm_X) (p1 : Int32) (σ : nm_St) : Ct X mi_Nm_sold 4 nm_wI [.ref 0, .int p1] σ (Nm_sold p1 σ) := by
  refine Ct.of (by decide +kernel) rfl (fun F hF0 => ?_)
  unfold Nm_sold
  refine rn_iload_n (pc := 0) 1 dk_Nm_sold_0 rfl rfl ?_
  refine rn_iconst (pc := 1) (1 : Int32) dk_Nm_sold_1 cn_i_1 ?_
  refine rn_bipush (pc := 2) (8 : Int32) dk_Nm_sold_2 cn_b_8 ?_
  refine cl_Nm_144 (pc := 4) (As := [.int p1, .int (1 : Int32), .int (8 : Int32)]) (st := []) rfl (ct_Nm_isWithin X p1 (1 : Int32) (8 : Int32) σ) (Nat.le_trans (Nat.le_of_ble_eq_true rfl) hF0) rfl rfl (Nat.le_of_ble_eq_true rfl) dk_Nm_sold_4 (fun q1 => ?_)
  refine rn_if_ne (pc := 7) 17 dk_Nm_sold_7 (by decide) (fun c2 => ?_) (fun c2 => ?_)
  · refine rn_aload_n (pc := 17) 0 dk_Nm_sold_17 rfl rfl rfl ?_
    refine gf_Nm_31 (pc := 18) rfl dk_Nm_sold_18 ?_
    refine rn_aload_n (pc := 21) 0 dk_Nm_sold_21 rfl rfl rfl ?_
    refine gf_Nm_18 (pc := 22) rfl dk_Nm_sold_22 ?_
    refine rn_aload_n (pc := 25) 0 dk_Nm_sold_25 rfl rfl rfl ?_
    refine gf_Nm_18 (pc := 26) rfl dk_Nm_sold_26 ?_
    refine cl_Nm_230 (pc := 29) (As := []) (st := [.ref 2, .ref 23]) 2 rfl rfl (ct_Is_thoseAlive X 2 rfl q1.2) (Nat.le_trans (Nat.le_of_ble_eq_true rfl) hF0) rfl rfl (Nat.le_of_ble_eq_true rfl) dk_Nm_sold_29 (fun q3 => ?_)
    refine cl_Nm_202 (pc := 32) (As := [.ref 2, .int q3.1]) (st := []) rfl (ct_Se_layOut X 2 rfl q3.1 q3.2) (Nat.le_trans (Nat.le_of_ble_eq_true rfl) hF0) rfl rfl (Nat.le_of_ble_eq_true rfl) dk_Nm_sold_32 (fun q4 => ?_)
    refine rn_aload_n (pc := 35) 0 dk_Nm_sold_35 rfl rfl rfl ?_
    refine gf_Nm_31 (pc := 36) rfl dk_Nm_sold_36 ?_
    refine rn_iload_n (pc := 39) 1 dk_Nm_sold_39 rfl rfl ?_
    refine rn_aload_n (pc := 40) 0 dk_Nm_sold_40 rfl rfl rfl ?_
    refine gf_Nm_18 (pc := 41) rfl dk_Nm_sold_41 ?_
    refine cl_Nm_193 (pc := 44) (As := []) (st := [.int p1, .ref 23]) 2 rfl rfl (ct_Is_allParts X 2 rfl q4.2) (Nat.le_trans (Nat.le_of_ble_eq_true rfl) hF0) rfl rfl (Nat.le_of_ble_eq_true rfl) dk_Nm_sold_44 (fun q5 => ?_)
    refine cl_Nm_233 (pc := 47) (As := [.int p1, .int q5.1]) (st := []) rfl (ct_Se_anyMakes X p1 q5.1 q5.2) (Nat.le_trans (Nat.le_of_ble_eq_true rfl) hF0) rfl rfl (Nat.le_of_ble_eq_true rfl) dk_Nm_sold_47 (fun q6 => ?_)
    refine rn_if_eq (pc := 50) 57 dk_Nm_sold_50 (by decide) (fun c7 => ?_) (fun c7 => ?_)
    · refine rn_iconst (pc := 57) (0 : Int32) dk_Nm_sold_57 cn_i_0 ?_
      exact rn_iret rfl dk_Nm_sold_58
    · refine rn_iconst (pc := 53) (1 : Int32) dk_Nm_sold_53 cn_i_1 ?_
      refine rn_goto (pc := 54) 58 dk_Nm_sold_54 (by decide) ?_
      exact rn_iret rfl dk_Nm_sold_58
  · refine rn_aload_n (pc := 10) 0 dk_Nm_sold_10 rfl rfl rfl ?_
    refine rn_bipush (pc := 11) (-6 : Int32) dk_Nm_sold_11 cn_b_m6 ?_
    refine cl_Nm_73 (pc := 13) (As := [.int (-6 : Int32)]) (st := []) rfl (ct_Nm_refuse X (-6 : Int32) q1.2) (Nat.le_trans (Nat.le_of_ble_eq_true rfl) hF0) rfl rfl (Nat.le_of_ble_eq_true rfl) dk_Nm_sold_13 (fun q8 => ?_)
    exact rn_iret rfl dk_Nm_sold_16
theorem dk_Nm_stands_0 : decode mi_Nm_stands.2.1 0 = .ok (.aload_n 0, 1) := by decide +kernel
theorem dk_Nm_stands_1 : decode mi_Nm_stands.2.1 1 = .ok (.getfield 18, 3) := by decide +kernel
theorem dk_Nm_stands_4 : decode mi_Nm_stands.2.1 4 = .ok (.invokevirtual 227, 3) := by decide +kernel
theorem dk_Nm_stands_7 : decode mi_Nm_stands.2.1 7 = .ok (.iconst 1, 1) := by decide +kernel
theorem dk_Nm_stands_8 : decode mi_Nm_stands.2.1 8 = .ok (.isub, 1) := by decide +kernel
theorem dk_Nm_stands_9 : decode mi_Nm_stands.2.1 9 = .ok (.ireturn, 1) := by decide +kernel
def Nm_stands (σ : nm_St) : Option (Int32 × nm_St) :=
  ((Is_fewestAtHomeForAPart 2 σ).bind fun q1 =>
  some ((q1.1 - (1 : Int32)), q1.2))
set_option maxRecDepth 100000 in
set_option maxHeartbeats 4000000 in
theorem ct_Nm_stands (X : nm_X) (σ : nm_St) : Ct X mi_Nm_stands 3 nm_wI [.ref 0] σ (Nm_stands σ) := by
  refine Ct.of (by decide +kernel) rfl (fun F hF0 => ?_)
  unfold Nm_stands
  refine rn_aload_n (pc := 0) 0 dk_Nm_stands_0 rfl rfl rfl ?_
  refine gf_Nm_18 (pc := 1) rfl dk_Nm_stands_1 ?_
  refine cl_Nm_227 (pc := 4) (As := []) (st := []) 2 rfl rfl (ct_Is_fewestAtHomeForAPart X 2 rfl σ) (Nat.le_trans (Nat.le_of_ble_eq_true rfl) hF0) rfl rfl (Nat.le_of_ble_eq_true rfl) dk_Nm_stands_4 (fun q1 => ?_)
  refine rn_iconst (pc := 7) (1 : Int32) dk_Nm_stands_7 cn_i_1 ?_
  refine rn_isub (pc := 8) dk_Nm_stands_8 ?_
  exact rn_iret rfl dk_Nm_stands_9
theorem dk_Is_lessonsFor_0 : decode mi_Is_lessonsFor.2.1 0 = .ok (.aload_n 0, 1) := by decide +kernel
theorem dk_Is_lessonsFor_1 : decode mi_Is_lessonsFor.2.1 1 = .ok (.iconst 0, 1) := by decide +kernel
theorem dk_Is_lessonsFor_2 : decode mi_Is_lessonsFor.2.1 2 = .ok (.invokevirtual 83, 3) := by decide +kernel
theorem dk_Is_lessonsFor_5 : decode mi_Is_lessonsFor.2.1 5 = .ok (.istore_n 2, 1) := by decide +kernel
theorem dk_Is_lessonsFor_6 : decode mi_Is_lessonsFor.2.1 6 = .ok (.iload_n 2, 1) := by decide +kernel
theorem dk_Is_lessonsFor_7 : decode mi_Is_lessonsFor.2.1 7 = .ok (.invokestatic 96, 3) := by decide +kernel
theorem dk_Is_lessonsFor_10 : decode mi_Is_lessonsFor.2.1 10 = .ok (.iload_n 1, 1) := by decide +kernel
theorem dk_Is_lessonsFor_11 : decode mi_Is_lessonsFor.2.1 11 = .ok (.if_icmp .ge 5, 3) := by decide +kernel
theorem dk_Is_lessonsFor_14 : decode mi_Is_lessonsFor.2.1 14 = .ok (.iconst (-1), 1) := by decide +kernel
theorem dk_Is_lessonsFor_15 : decode mi_Is_lessonsFor.2.1 15 = .ok (.ireturn, 1) := by decide +kernel
theorem dk_Is_lessonsFor_16 : decode mi_Is_lessonsFor.2.1 16 = .ok (.iconst 0, 1) := by decide +kernel
theorem dk_Is_lessonsFor_17 : decode mi_Is_lessonsFor.2.1 17 = .ok (.istore_n 3, 1) := by decide +kernel
theorem dk_Is_lessonsFor_18 : decode mi_Is_lessonsFor.2.1 18 = .ok (.iconst 0, 1) := by decide +kernel
theorem dk_Is_lessonsFor_19 : decode mi_Is_lessonsFor.2.1 19 = .ok (.istore 4, 2) := by decide +kernel
theorem dk_Is_lessonsFor_21 : decode mi_Is_lessonsFor.2.1 21 = .ok (.iload 4, 2) := by decide +kernel
theorem dk_Is_lessonsFor_23 : decode mi_Is_lessonsFor.2.1 23 = .ok (.aload_n 0, 1) := by decide +kernel
theorem dk_Is_lessonsFor_24 : decode mi_Is_lessonsFor.2.1 24 = .ok (.getfield 34, 3) := by decide +kernel
theorem dk_Is_lessonsFor_27 : decode mi_Is_lessonsFor.2.1 27 = .ok (.if_icmp .ge 36, 3) := by decide +kernel
theorem dk_Is_lessonsFor_30 : decode mi_Is_lessonsFor.2.1 30 = .ok (.aload_n 0, 1) := by decide +kernel
theorem dk_Is_lessonsFor_31 : decode mi_Is_lessonsFor.2.1 31 = .ok (.iload_n 2, 1) := by decide +kernel
theorem dk_Is_lessonsFor_32 : decode mi_Is_lessonsFor.2.1 32 = .ok (.iload 4, 2) := by decide +kernel
theorem dk_Is_lessonsFor_34 : decode mi_Is_lessonsFor.2.1 34 = .ok (.invokevirtual 92, 3) := by decide +kernel
theorem dk_Is_lessonsFor_37 : decode mi_Is_lessonsFor.2.1 37 = .ok (.istore 5, 2) := by decide +kernel
theorem dk_Is_lessonsFor_39 : decode mi_Is_lessonsFor.2.1 39 = .ok (.iload 5, 2) := by decide +kernel
theorem dk_Is_lessonsFor_41 : decode mi_Is_lessonsFor.2.1 41 = .ok (.ifCond .ne 5, 3) := by decide +kernel
theorem dk_Is_lessonsFor_44 : decode mi_Is_lessonsFor.2.1 44 = .ok (.iconst (-1), 1) := by decide +kernel
theorem dk_Is_lessonsFor_45 : decode mi_Is_lessonsFor.2.1 45 = .ok (.ireturn, 1) := by decide +kernel
theorem dk_Is_lessonsFor_46 : decode mi_Is_lessonsFor.2.1 46 = .ok (.iload_n 3, 1) := by decide +kernel
theorem dk_Is_lessonsFor_47 : decode mi_Is_lessonsFor.2.1 47 = .ok (.iconst 0, 1) := by decide +kernel
theorem dk_Is_lessonsFor_48 : decode mi_Is_lessonsFor.2.1 48 = .ok (.iload_n 1, 1) := by decide +kernel
theorem dk_Is_lessonsFor_49 : decode mi_Is_lessonsFor.2.1 49 = .ok (.iload 5, 2) := by decide +kernel
theorem dk_Is_lessonsFor_51 : decode mi_Is_lessonsFor.2.1 51 = .ok (.isub, 1) := by decide +kernel
theorem dk_Is_lessonsFor_52 : decode mi_Is_lessonsFor.2.1 52 = .ok (.invokestatic 106, 3) := by decide +kernel
theorem dk_Is_lessonsFor_55 : decode mi_Is_lessonsFor.2.1 55 = .ok (.iadd, 1) := by decide +kernel
theorem dk_Is_lessonsFor_56 : decode mi_Is_lessonsFor.2.1 56 = .ok (.istore_n 3, 1) := by decide +kernel
theorem dk_Is_lessonsFor_57 : decode mi_Is_lessonsFor.2.1 57 = .ok (.iinc 4 1, 3) := by decide +kernel
theorem dk_Is_lessonsFor_60 : decode mi_Is_lessonsFor.2.1 60 = .ok (.goto (-39), 3) := by decide +kernel
theorem dk_Is_lessonsFor_63 : decode mi_Is_lessonsFor.2.1 63 = .ok (.iload_n 3, 1) := by decide +kernel
theorem dk_Is_lessonsFor_64 : decode mi_Is_lessonsFor.2.1 64 = .ok (.ireturn, 1) := by decide +kernel
def Is_lessonsFor_l21 (o : Nat) (k_63 : Int32 → nm_St → Option (Int32 × nm_St)) : Nat → Int32 → Int32 → Int32 → Int32 → nm_St → Option (Int32 × nm_St)
  | 0, _, _, _, _, _ => none
  | n + 1, x1, x2, x3, x4, σ =>
    (if (σ.1 o 7) ≤ x4 then
      k_63 x3 σ
    else
      ((Is_whoKnow o x2 x4 σ).bind fun q5 =>
      (if q5.1 = 0 then
        some ((-1 : Int32), q5.2)
      else
        (nm_let ((if (0 : Int32) < (x1 - q5.1) then (x1 - q5.1) else (0 : Int32))) fun v7 =>
        (Is_lessonsFor_l21 o k_63 n) x1 x2 (x3 + v7) (x4 + (1 : Int32)) q5.2))))
set_option maxRecDepth 100000 in
set_option maxHeartbeats 4000000 in
theorem r_Is_lessonsFor_l21 (X : nm_X) (F : nm_F) (hF0 : 2 ≤ nm_d F) (o : Nat) (ho : nm_isl o = true) (k_63 : Int32 → nm_St → Option (Int32 × nm_St)) (hk_63 : ∀ (x3 : Int32) (σ : nm_St), Rn X mi_Is_lessonsFor F (nm_Qf X F nm_wI) [(3, .int x3)] [] 63 σ (k_63 x3 σ)) : ∀ (n : Nat) (x1 : Int32) (x2 : Int32) (x3 : Int32) (x4 : Int32) (σ : nm_St), Rn X mi_Is_lessonsFor F (nm_Qf X F nm_wI) [(0, .ref o), (1, .int x1), (2, .int x2), (3, .int x3), (4, .int x4)] [] 21 σ (Is_lessonsFor_l21 o k_63 n x1 x2 x3 x4 σ) := by
  intro n
  induction n with
  | zero =>
    intro x1 x2 x3 x4 σ
    exact rn_none
  | succ n ih =>
    intro x1 x2 x3 x4 σ
    unfold Is_lessonsFor_l21
    refine rn_iload (pc := 21) dk_Is_lessonsFor_21 rfl ?_
    refine rn_aload_n (pc := 23) 0 dk_Is_lessonsFor_23 rfl rfl (nm_rok_isl ho) ?_
    refine gf_Is_34 (pc := 24) o ho rfl dk_Is_lessonsFor_24 ?_
    refine rn_icmp_ge (pc := 27) 63 dk_Is_lessonsFor_27 (by decide) (fun c4 => ?_) (fun c4 => ?_)
    · exact rn_sub (by rfl) (hk_63 x3 σ)
    · refine rn_aload_n (pc := 30) 0 dk_Is_lessonsFor_30 rfl rfl (nm_rok_isl ho) ?_
      refine rn_iload_n (pc := 31) 2 dk_Is_lessonsFor_31 rfl rfl ?_
      refine rn_iload (pc := 32) dk_Is_lessonsFor_32 rfl ?_
      refine cl_Is_92 (pc := 34) (As := [.int x2, .int x4]) (st := []) o ho rfl (ct_Is_whoKnow X o ho x2 x4 σ) (Nat.le_trans (Nat.le_of_ble_eq_true rfl) hF0) rfl rfl (Nat.le_of_ble_eq_true rfl) dk_Is_lessonsFor_34 (fun q5 => ?_)
      refine rn_istore (pc := 37) dk_Is_lessonsFor_37 rfl rfl ?_
      refine rn_iload (pc := 39) dk_Is_lessonsFor_39 rfl ?_
      refine rn_if_ne (pc := 41) 46 dk_Is_lessonsFor_41 (by decide) (fun c6 => ?_) (fun c6 => ?_)
      · refine rn_iload_n (pc := 46) 3 dk_Is_lessonsFor_46 rfl rfl ?_
        refine rn_iconst (pc := 47) (0 : Int32) dk_Is_lessonsFor_47 cn_i_0 ?_
        refine rn_iload_n (pc := 48) 1 dk_Is_lessonsFor_48 rfl rfl ?_
        refine rn_iload (pc := 49) dk_Is_lessonsFor_49 rfl ?_
        refine rn_isub (pc := 51) dk_Is_lessonsFor_51 ?_
        refine rn_mmax (pc := 52) (Nat.le_trans (Nat.le_of_ble_eq_true rfl) hF0) wd_464 (Nat.le_of_ble_eq_true rfl) dk_Is_lessonsFor_52 ?_
        refine rn_leti (fun v7 => ?_)
        refine rn_iadd (pc := 55) dk_Is_lessonsFor_55 ?_
        refine rn_istore_n (pc := 56) 3 dk_Is_lessonsFor_56 rfl rfl rfl ?_
        refine rn_iinc (pc := 57) (1 : Int32) dk_Is_lessonsFor_57 cn_i_1 rfl rfl rfl ?_
        refine rn_goto (pc := 60) 21 dk_Is_lessonsFor_60 (by decide) ?_
        exact rn_sub (by rfl) (ih x1 x2 (x3 + v7) (x4 + (1 : Int32)) q5.2)
      · refine rn_iconst (pc := 44) (-1 : Int32) dk_Is_lessonsFor_44 cn_i_m1 ?_
        exact rn_iret rfl dk_Is_lessonsFor_45
def Is_lessonsFor (o : Nat) (p1 : Int32) (σ : nm_St) : Option (Int32 × nm_St) :=
  ((Is_thoseAt o (0 : Int32) σ).bind fun q1 =>
  ((Ji_bitCount q1.1 q1.2).bind fun q2 =>
  (if p1 ≤ q2.1 then
    Is_lessonsFor_l21 o (fun (e9 : Int32) (s8 : nm_St) =>
      some (e9, s8)) 400 p1 q1.1 (0 : Int32) (0 : Int32) q2.2
  else
    some ((-1 : Int32), q2.2))))
set_option maxRecDepth 100000 in
set_option maxHeartbeats 4000000 in
theorem ct_Is_lessonsFor (X : nm_X) (o : Nat) (ho : nm_isl o = true) (p1 : Int32) (σ : nm_St) : Ct X mi_Is_lessonsFor 2 nm_wI [.ref o, .int p1] σ (Is_lessonsFor o p1 σ) := by
  refine Ct.of (by decide +kernel) rfl (fun F hF0 => ?_)
  unfold Is_lessonsFor
  refine rn_aload_n (pc := 0) 0 dk_Is_lessonsFor_0 rfl rfl (nm_rok_isl ho) ?_
  refine rn_iconst (pc := 1) (0 : Int32) dk_Is_lessonsFor_1 cn_i_0 ?_
  refine cl_Is_83 (pc := 2) (As := [.int (0 : Int32)]) (st := []) o ho rfl (ct_Is_thoseAt X o ho (0 : Int32) σ) (Nat.le_trans (Nat.le_of_ble_eq_true rfl) hF0) rfl rfl (Nat.le_of_ble_eq_true rfl) dk_Is_lessonsFor_2 (fun q1 => ?_)
  refine rn_istore_n (pc := 5) 2 dk_Is_lessonsFor_5 rfl rfl rfl ?_
  refine rn_iload_n (pc := 6) 2 dk_Is_lessonsFor_6 rfl rfl ?_
  refine cl_Is_96 (pc := 7) (As := [.int q1.1]) (st := []) rfl (ct_Ji_bitCount X q1.1 q1.2) (Nat.le_trans (Nat.le_of_ble_eq_true rfl) hF0) rfl rfl (Nat.le_of_ble_eq_true rfl) dk_Is_lessonsFor_7 (fun q2 => ?_)
  refine rn_iload_n (pc := 10) 1 dk_Is_lessonsFor_10 rfl rfl ?_
  refine rn_icmp_ge (pc := 11) 16 dk_Is_lessonsFor_11 (by decide) (fun c3 => ?_) (fun c3 => ?_)
  · refine rn_iconst (pc := 16) (0 : Int32) dk_Is_lessonsFor_16 cn_i_0 ?_
    refine rn_istore_n (pc := 17) 3 dk_Is_lessonsFor_17 rfl rfl rfl ?_
    refine rn_iconst (pc := 18) (0 : Int32) dk_Is_lessonsFor_18 cn_i_0 ?_
    refine rn_istore (pc := 19) dk_Is_lessonsFor_19 rfl rfl ?_
    refine rn_sub (by rfl) (r_Is_lessonsFor_l21 X F hF0 o ho _ (fun e9 s8 => ?_) 400 p1 q1.1 (0 : Int32) (0 : Int32) q2.2)
    refine rn_iload_n (pc := 63) 3 dk_Is_lessonsFor_63 rfl rfl ?_
    exact rn_iret rfl dk_Is_lessonsFor_64
  · refine rn_iconst (pc := 14) (-1 : Int32) dk_Is_lessonsFor_14 cn_i_m1 ?_
    exact rn_iret rfl dk_Is_lessonsFor_15
theorem dk_Nm_lessons_0 : decode mi_Nm_lessons.2.1 0 = .ok (.iload_n 1, 1) := by decide +kernel
theorem dk_Nm_lessons_1 : decode mi_Nm_lessons.2.1 1 = .ok (.iconst 0, 1) := by decide +kernel
theorem dk_Nm_lessons_2 : decode mi_Nm_lessons.2.1 2 = .ok (.bipush 8, 2) := by decide +kernel
theorem dk_Nm_lessons_4 : decode mi_Nm_lessons.2.1 4 = .ok (.invokestatic 144, 3) := by decide +kernel
theorem dk_Nm_lessons_7 : decode mi_Nm_lessons.2.1 7 = .ok (.ifCond .ne 10, 3) := by decide +kernel
theorem dk_Nm_lessons_10 : decode mi_Nm_lessons.2.1 10 = .ok (.aload_n 0, 1) := by decide +kernel
theorem dk_Nm_lessons_11 : decode mi_Nm_lessons.2.1 11 = .ok (.bipush (-6), 2) := by decide +kernel
theorem dk_Nm_lessons_13 : decode mi_Nm_lessons.2.1 13 = .ok (.invokevirtual 209, 3) := by decide +kernel
theorem dk_Nm_lessons_16 : decode mi_Nm_lessons.2.1 16 = .ok (.ireturn, 1) := by decide +kernel
theorem dk_Nm_lessons_17 : decode mi_Nm_lessons.2.1 17 = .ok (.aload_n 0, 1) := by decide +kernel
theorem dk_Nm_lessons_18 : decode mi_Nm_lessons.2.1 18 = .ok (.getfield 18, 3) := by decide +kernel
theorem dk_Nm_lessons_21 : decode mi_Nm_lessons.2.1 21 = .ok (.iload_n 1, 1) := by decide +kernel
theorem dk_Nm_lessons_22 : decode mi_Nm_lessons.2.1 22 = .ok (.iconst 1, 1) := by decide +kernel
theorem dk_Nm_lessons_23 : decode mi_Nm_lessons.2.1 23 = .ok (.iadd, 1) := by decide +kernel
theorem dk_Nm_lessons_24 : decode mi_Nm_lessons.2.1 24 = .ok (.invokevirtual 236, 3) := by decide +kernel
theorem dk_Nm_lessons_27 : decode mi_Nm_lessons.2.1 27 = .ok (.ireturn, 1) := by decide +kernel
def Nm_lessons (p1 : Int32) (σ : nm_St) : Option (Int32 × nm_St) :=
  ((Nm_isWithin p1 (0 : Int32) (8 : Int32) σ).bind fun q1 =>
  (if q1.1 = 0 then
    ((Nm_refuseFar (-6 : Int32) q1.2).bind fun q4 =>
    some (q4.1, q4.2))
  else
    ((Is_lessonsFor 2 (p1 + (1 : Int32)) q1.2).bind fun q3 =>
    some (q3.1, q3.2))))
set_option maxRecDepth 100000 in
set_option maxHeartbeats 4000000 in
theorem ct_Nm_lessons (X : nm_X) (p1 : Int32) (σ : nm_St) : Ct X mi_Nm_lessons 3 nm_wI [.ref 0, .int p1] σ (Nm_lessons p1 σ) := by
  refine Ct.of (by decide +kernel) rfl (fun F hF0 => ?_)
  unfold Nm_lessons
  refine rn_iload_n (pc := 0) 1 dk_Nm_lessons_0 rfl rfl ?_
  refine rn_iconst (pc := 1) (0 : Int32) dk_Nm_lessons_1 cn_i_0 ?_
  refine rn_bipush (pc := 2) (8 : Int32) dk_Nm_lessons_2 cn_b_8 ?_
  refine cl_Nm_144 (pc := 4) (As := [.int p1, .int (0 : Int32), .int (8 : Int32)]) (st := []) rfl (ct_Nm_isWithin X p1 (0 : Int32) (8 : Int32) σ) (Nat.le_trans (Nat.le_of_ble_eq_true rfl) hF0) rfl rfl (Nat.le_of_ble_eq_true rfl) dk_Nm_lessons_4 (fun q1 => ?_)
  refine rn_if_ne (pc := 7) 17 dk_Nm_lessons_7 (by decide) (fun c2 => ?_) (fun c2 => ?_)
  · refine rn_aload_n (pc := 17) 0 dk_Nm_lessons_17 rfl rfl rfl ?_
    refine gf_Nm_18 (pc := 18) rfl dk_Nm_lessons_18 ?_
    refine rn_iload_n (pc := 21) 1 dk_Nm_lessons_21 rfl rfl ?_
    refine rn_iconst (pc := 22) (1 : Int32) dk_Nm_lessons_22 cn_i_1 ?_
    refine rn_iadd (pc := 23) dk_Nm_lessons_23 ?_
    refine cl_Nm_236 (pc := 24) (As := [.int (p1 + (1 : Int32))]) (st := []) 2 rfl rfl (ct_Is_lessonsFor X 2 rfl (p1 + (1 : Int32)) q1.2) (Nat.le_trans (Nat.le_of_ble_eq_true rfl) hF0) rfl rfl (Nat.le_of_ble_eq_true rfl) dk_Nm_lessons_24 (fun q3 => ?_)
    exact rn_iret rfl dk_Nm_lessons_27
  · refine rn_aload_n (pc := 10) 0 dk_Nm_lessons_10 rfl rfl rfl ?_
    refine rn_bipush (pc := 11) (-6 : Int32) dk_Nm_lessons_11 cn_b_m6 ?_
    refine cl_Nm_209 (pc := 13) (As := [.int (-6 : Int32)]) (st := []) rfl (ct_Nm_refuseFar X (-6 : Int32) q1.2) (Nat.le_trans (Nat.le_of_ble_eq_true rfl) hF0) rfl rfl (Nat.le_of_ble_eq_true rfl) dk_Nm_lessons_13 (fun q4 => ?_)
    exact rn_iret rfl dk_Nm_lessons_16
theorem dk_Is_whoGoesFor_0 : decode mi_Is_whoGoesFor.2.1 0 = .ok (.iconst 0, 1) := by decide +kernel
theorem dk_Is_whoGoesFor_1 : decode mi_Is_whoGoesFor.2.1 1 = .ok (.istore_n 2, 1) := by decide +kernel
theorem dk_Is_whoGoesFor_2 : decode mi_Is_whoGoesFor.2.1 2 = .ok (.iconst 0, 1) := by decide +kernel
theorem dk_Is_whoGoesFor_3 : decode mi_Is_whoGoesFor.2.1 3 = .ok (.istore_n 3, 1) := by decide +kernel
theorem dk_Is_whoGoesFor_4 : decode mi_Is_whoGoesFor.2.1 4 = .ok (.iload_n 3, 1) := by decide +kernel
theorem dk_Is_whoGoesFor_5 : decode mi_Is_whoGoesFor.2.1 5 = .ok (.bipush 8, 2) := by decide +kernel
theorem dk_Is_whoGoesFor_7 : decode mi_Is_whoGoesFor.2.1 7 = .ok (.if_icmp .ge 33, 3) := by decide +kernel
theorem dk_Is_whoGoesFor_10 : decode mi_Is_whoGoesFor.2.1 10 = .ok (.aload_n 0, 1) := by decide +kernel
theorem dk_Is_whoGoesFor_11 : decode mi_Is_whoGoesFor.2.1 11 = .ok (.iload_n 3, 1) := by decide +kernel
theorem dk_Is_whoGoesFor_12 : decode mi_Is_whoGoesFor.2.1 12 = .ok (.iconst 0, 1) := by decide +kernel
theorem dk_Is_whoGoesFor_13 : decode mi_Is_whoGoesFor.2.1 13 = .ok (.invokevirtual 77, 3) := by decide +kernel
theorem dk_Is_whoGoesFor_16 : decode mi_Is_whoGoesFor.2.1 16 = .ok (.ifCond .eq 18, 3) := by decide +kernel
theorem dk_Is_whoGoesFor_19 : decode mi_Is_whoGoesFor.2.1 19 = .ok (.iload_n 1, 1) := by decide +kernel
theorem dk_Is_whoGoesFor_20 : decode mi_Is_whoGoesFor.2.1 20 = .ok (.aload_n 0, 1) := by decide +kernel
theorem dk_Is_whoGoesFor_21 : decode mi_Is_whoGoesFor.2.1 21 = .ok (.iload_n 3, 1) := by decide +kernel
theorem dk_Is_whoGoesFor_22 : decode mi_Is_whoGoesFor.2.1 22 = .ok (.invokevirtual 66, 3) := by decide +kernel
theorem dk_Is_whoGoesFor_25 : decode mi_Is_whoGoesFor.2.1 25 = .ok (.if_icmp .lt 9, 3) := by decide +kernel
theorem dk_Is_whoGoesFor_28 : decode mi_Is_whoGoesFor.2.1 28 = .ok (.iload_n 2, 1) := by decide +kernel
theorem dk_Is_whoGoesFor_29 : decode mi_Is_whoGoesFor.2.1 29 = .ok (.iconst 1, 1) := by decide +kernel
theorem dk_Is_whoGoesFor_30 : decode mi_Is_whoGoesFor.2.1 30 = .ok (.iload_n 3, 1) := by decide +kernel
theorem dk_Is_whoGoesFor_31 : decode mi_Is_whoGoesFor.2.1 31 = .ok (.ishl, 1) := by decide +kernel
theorem dk_Is_whoGoesFor_32 : decode mi_Is_whoGoesFor.2.1 32 = .ok (.ior, 1) := by decide +kernel
theorem dk_Is_whoGoesFor_33 : decode mi_Is_whoGoesFor.2.1 33 = .ok (.istore_n 2, 1) := by decide +kernel
theorem dk_Is_whoGoesFor_34 : decode mi_Is_whoGoesFor.2.1 34 = .ok (.iinc 3 1, 3) := by decide +kernel
theorem dk_Is_whoGoesFor_37 : decode mi_Is_whoGoesFor.2.1 37 = .ok (.goto (-33), 3) := by decide +kernel
theorem dk_Is_whoGoesFor_40 : decode mi_Is_whoGoesFor.2.1 40 = .ok (.iload_n 2, 1) := by decide +kernel
theorem dk_Is_whoGoesFor_41 : decode mi_Is_whoGoesFor.2.1 41 = .ok (.ireturn, 1) := by decide +kernel
def Is_whoGoesFor_l4 (o : Nat) (k_40 : Int32 → nm_St → Option (Int32 × nm_St)) : Nat → Int32 → Int32 → Int32 → nm_St → Option (Int32 × nm_St)
  | 0, _, _, _, _ => none
  | n + 1, x1, x2, x3, σ =>
    (if (8 : Int32) ≤ x3 then
      k_40 x2 σ
    else
      ((Is_isAt o x3 (0 : Int32) σ).bind fun q2 =>
      (if q2.1 = 0 then
        (Is_whoGoesFor_l4 o k_40 n) x1 x2 (x3 + (1 : Int32)) q2.2
      else
        ((Is_priceOf o x3 q2.2).bind fun q4 =>
        (if x1 < q4.1 then
          (Is_whoGoesFor_l4 o k_40 n) x1 x2 (x3 + (1 : Int32)) q4.2
        else
          (nm_let ((x2 ||| ((1 : Int32) <<< (x3 &&& 31)))) fun v6 =>
          (Is_whoGoesFor_l4 o k_40 n) x1 v6 (x3 + (1 : Int32)) q4.2))))))
set_option maxRecDepth 100000 in
set_option maxHeartbeats 4000000 in
theorem r_Is_whoGoesFor_l4 (X : nm_X) (F : nm_F) (hF0 : 3 ≤ nm_d F) (o : Nat) (ho : nm_isl o = true) (k_40 : Int32 → nm_St → Option (Int32 × nm_St)) (hk_40 : ∀ (x2 : Int32) (σ : nm_St), Rn X mi_Is_whoGoesFor F (nm_Qf X F nm_wI) [(2, .int x2)] [] 40 σ (k_40 x2 σ)) : ∀ (n : Nat) (x1 : Int32) (x2 : Int32) (x3 : Int32) (σ : nm_St), Rn X mi_Is_whoGoesFor F (nm_Qf X F nm_wI) [(0, .ref o), (1, .int x1), (2, .int x2), (3, .int x3)] [] 4 σ (Is_whoGoesFor_l4 o k_40 n x1 x2 x3 σ) := by
  intro n
  induction n with
  | zero =>
    intro x1 x2 x3 σ
    exact rn_none
  | succ n ih =>
    intro x1 x2 x3 σ
    unfold Is_whoGoesFor_l4
    refine rn_iload_n (pc := 4) 3 dk_Is_whoGoesFor_4 rfl rfl ?_
    refine rn_bipush (pc := 5) (8 : Int32) dk_Is_whoGoesFor_5 cn_b_8 ?_
    refine rn_icmp_ge (pc := 7) 40 dk_Is_whoGoesFor_7 (by decide) (fun c1 => ?_) (fun c1 => ?_)
    · exact rn_sub (by rfl) (hk_40 x2 σ)
    · refine rn_aload_n (pc := 10) 0 dk_Is_whoGoesFor_10 rfl rfl (nm_rok_isl ho) ?_
      refine rn_iload_n (pc := 11) 3 dk_Is_whoGoesFor_11 rfl rfl ?_
      refine rn_iconst (pc := 12) (0 : Int32) dk_Is_whoGoesFor_12 cn_i_0 ?_
      refine cl_Is_77 (pc := 13) (As := [.int x3, .int (0 : Int32)]) (st := []) o ho rfl (ct_Is_isAt X o ho x3 (0 : Int32) σ) (Nat.le_trans (Nat.le_of_ble_eq_true rfl) hF0) rfl rfl (Nat.le_of_ble_eq_true rfl) dk_Is_whoGoesFor_13 (fun q2 => ?_)
      refine rn_if_eq (pc := 16) 34 dk_Is_whoGoesFor_16 (by decide) (fun c3 => ?_) (fun c3 => ?_)
      · refine rn_iinc (pc := 34) (1 : Int32) dk_Is_whoGoesFor_34 cn_i_1 rfl rfl rfl ?_
        refine rn_goto (pc := 37) 4 dk_Is_whoGoesFor_37 (by decide) ?_
        exact rn_sub (by rfl) (ih x1 x2 (x3 + (1 : Int32)) q2.2)
      · refine rn_iload_n (pc := 19) 1 dk_Is_whoGoesFor_19 rfl rfl ?_
        refine rn_aload_n (pc := 20) 0 dk_Is_whoGoesFor_20 rfl rfl (nm_rok_isl ho) ?_
        refine rn_iload_n (pc := 21) 3 dk_Is_whoGoesFor_21 rfl rfl ?_
        refine cl_Is_66 (pc := 22) (As := [.int x3]) (st := [.int x1]) o ho rfl (ct_Is_priceOf X o ho x3 q2.2) (Nat.le_trans (Nat.le_of_ble_eq_true rfl) hF0) rfl rfl (Nat.le_of_ble_eq_true rfl) dk_Is_whoGoesFor_22 (fun q4 => ?_)
        refine rn_icmp_lt (pc := 25) 34 dk_Is_whoGoesFor_25 (by decide) (fun c5 => ?_) (fun c5 => ?_)
        · refine rn_iinc (pc := 34) (1 : Int32) dk_Is_whoGoesFor_34 cn_i_1 rfl rfl rfl ?_
          refine rn_goto (pc := 37) 4 dk_Is_whoGoesFor_37 (by decide) ?_
          exact rn_sub (by rfl) (ih x1 x2 (x3 + (1 : Int32)) q4.2)
        · refine rn_iload_n (pc := 28) 2 dk_Is_whoGoesFor_28 rfl rfl ?_
          refine rn_iconst (pc := 29) (1 : Int32) dk_Is_whoGoesFor_29 cn_i_1 ?_
          refine rn_iload_n (pc := 30) 3 dk_Is_whoGoesFor_30 rfl rfl ?_
          refine rn_ishl (pc := 31) dk_Is_whoGoesFor_31 ?_
          refine rn_ior (pc := 32) dk_Is_whoGoesFor_32 ?_
          refine rn_leti (fun v6 => ?_)
          refine rn_istore_n (pc := 33) 2 dk_Is_whoGoesFor_33 rfl rfl rfl ?_
          refine rn_iinc (pc := 34) (1 : Int32) dk_Is_whoGoesFor_34 cn_i_1 rfl rfl rfl ?_
          refine rn_goto (pc := 37) 4 dk_Is_whoGoesFor_37 (by decide) ?_
          exact rn_sub (by rfl) (ih x1 v6 (x3 + (1 : Int32)) q4.2)
def Is_whoGoesFor (o : Nat) (p1 : Int32) (σ : nm_St) : Option (Int32 × nm_St) :=
  Is_whoGoesFor_l4 o (fun (e8 : Int32) (s7 : nm_St) =>
    some (e8, s7)) 400 p1 (0 : Int32) (0 : Int32) σ
set_option maxRecDepth 100000 in
set_option maxHeartbeats 4000000 in
theorem ct_Is_whoGoesFor (X : nm_X) (o : Nat) (ho : nm_isl o = true) (p1 : Int32) (σ : nm_St) : Ct X mi_Is_whoGoesFor 3 nm_wI [.ref o, .int p1] σ (Is_whoGoesFor o p1 σ) := by
  refine Ct.of (by decide +kernel) rfl (fun F hF0 => ?_)
  unfold Is_whoGoesFor
  refine rn_iconst (pc := 0) (0 : Int32) dk_Is_whoGoesFor_0 cn_i_0 ?_
  refine rn_istore_n (pc := 1) 2 dk_Is_whoGoesFor_1 rfl rfl rfl ?_
  refine rn_iconst (pc := 2) (0 : Int32) dk_Is_whoGoesFor_2 cn_i_0 ?_
  refine rn_istore_n (pc := 3) 3 dk_Is_whoGoesFor_3 rfl rfl rfl ?_
  refine rn_sub (by rfl) (r_Is_whoGoesFor_l4 X F hF0 o ho _ (fun e8 s7 => ?_) 400 p1 (0 : Int32) (0 : Int32) σ)
  refine rn_iload_n (pc := 40) 2 dk_Is_whoGoesFor_40 rfl rfl ?_
  exact rn_iret rfl dk_Is_whoGoesFor_41
theorem dk_Nm_offer_0 : decode mi_Nm_offer.2.1 0 = .ok (.iload_n 1, 1) := by decide +kernel
theorem dk_Nm_offer_1 : decode mi_Nm_offer.2.1 1 = .ok (.iconst 0, 1) := by decide +kernel
theorem dk_Nm_offer_2 : decode mi_Nm_offer.2.1 2 = .ok (.sipush 999, 3) := by decide +kernel
theorem dk_Nm_offer_5 : decode mi_Nm_offer.2.1 5 = .ok (.invokestatic 144, 3) := by decide +kernel
theorem dk_Nm_offer_8 : decode mi_Nm_offer.2.1 8 = .ok (.ifCond .ne 10, 3) := by decide +kernel
theorem dk_Nm_offer_11 : decode mi_Nm_offer.2.1 11 = .ok (.aload_n 0, 1) := by decide +kernel
theorem dk_Nm_offer_12 : decode mi_Nm_offer.2.1 12 = .ok (.bipush (-6), 2) := by decide +kernel
theorem dk_Nm_offer_14 : decode mi_Nm_offer.2.1 14 = .ok (.invokevirtual 73, 3) := by decide +kernel
theorem dk_Nm_offer_17 : decode mi_Nm_offer.2.1 17 = .ok (.ireturn, 1) := by decide +kernel
theorem dk_Nm_offer_18 : decode mi_Nm_offer.2.1 18 = .ok (.aload_n 0, 1) := by decide +kernel
theorem dk_Nm_offer_19 : decode mi_Nm_offer.2.1 19 = .ok (.getfield 18, 3) := by decide +kernel
theorem dk_Nm_offer_22 : decode mi_Nm_offer.2.1 22 = .ok (.iload_n 1, 1) := by decide +kernel
theorem dk_Nm_offer_23 : decode mi_Nm_offer.2.1 23 = .ok (.invokevirtual 239, 3) := by decide +kernel
theorem dk_Nm_offer_26 : decode mi_Nm_offer.2.1 26 = .ok (.ireturn, 1) := by decide +kernel
def Nm_offer (p1 : Int32) (σ : nm_St) : Option (Int32 × nm_St) :=
  ((Nm_isWithin p1 (0 : Int32) (999 : Int32) σ).bind fun q1 =>
  (if q1.1 = 0 then
    ((Nm_refuse (-6 : Int32) q1.2).bind fun q4 =>
    some (q4.1, q4.2))
  else
    ((Is_whoGoesFor 2 p1 q1.2).bind fun q3 =>
    some (q3.1, q3.2))))
set_option maxRecDepth 100000 in
set_option maxHeartbeats 4000000 in
theorem ct_Nm_offer (X : nm_X) (p1 : Int32) (σ : nm_St) : Ct X mi_Nm_offer 4 nm_wI [.ref 0, .int p1] σ (Nm_offer p1 σ) := by
  refine Ct.of (by decide +kernel) rfl (fun F hF0 => ?_)
  unfold Nm_offer
  refine rn_iload_n (pc := 0) 1 dk_Nm_offer_0 rfl rfl ?_
  refine rn_iconst (pc := 1) (0 : Int32) dk_Nm_offer_1 cn_i_0 ?_
  refine rn_sipush (pc := 2) (999 : Int32) dk_Nm_offer_2 cn_s_999 ?_
  refine cl_Nm_144 (pc := 5) (As := [.int p1, .int (0 : Int32), .int (999 : Int32)]) (st := []) rfl (ct_Nm_isWithin X p1 (0 : Int32) (999 : Int32) σ) (Nat.le_trans (Nat.le_of_ble_eq_true rfl) hF0) rfl rfl (Nat.le_of_ble_eq_true rfl) dk_Nm_offer_5 (fun q1 => ?_)
  refine rn_if_ne (pc := 8) 18 dk_Nm_offer_8 (by decide) (fun c2 => ?_) (fun c2 => ?_)
  · refine rn_aload_n (pc := 18) 0 dk_Nm_offer_18 rfl rfl rfl ?_
    refine gf_Nm_18 (pc := 19) rfl dk_Nm_offer_19 ?_
    refine rn_iload_n (pc := 22) 1 dk_Nm_offer_22 rfl rfl ?_
    refine cl_Nm_239 (pc := 23) (As := [.int p1]) (st := []) 2 rfl rfl (ct_Is_whoGoesFor X 2 rfl p1 q1.2) (Nat.le_trans (Nat.le_of_ble_eq_true rfl) hF0) rfl rfl (Nat.le_of_ble_eq_true rfl) dk_Nm_offer_23 (fun q3 => ?_)
    exact rn_iret rfl dk_Nm_offer_26
  · refine rn_aload_n (pc := 11) 0 dk_Nm_offer_11 rfl rfl rfl ?_
    refine rn_bipush (pc := 12) (-6 : Int32) dk_Nm_offer_12 cn_b_m6 ?_
    refine cl_Nm_73 (pc := 14) (As := [.int (-6 : Int32)]) (st := []) rfl (ct_Nm_refuse X (-6 : Int32) q1.2) (Nat.le_trans (Nat.le_of_ble_eq_true rfl) hF0) rfl rfl (Nat.le_of_ble_eq_true rfl) dk_Nm_offer_14 (fun q4 => ?_)
    exact rn_iret rfl dk_Nm_offer_17
theorem dk_Se_bestFor_0 : decode mi_Se_bestFor.2.1 0 = .ok (.iconst 0, 1) := by decide +kernel
theorem dk_Se_bestFor_1 : decode mi_Se_bestFor.2.1 1 = .ok (.istore_n 3, 1) := by decide +kernel
theorem dk_Se_bestFor_2 : decode mi_Se_bestFor.2.1 2 = .ok (.iconst (-1), 1) := by decide +kernel
theorem dk_Se_bestFor_3 : decode mi_Se_bestFor.2.1 3 = .ok (.istore 4, 2) := by decide +kernel
theorem dk_Se_bestFor_5 : decode mi_Se_bestFor.2.1 5 = .ok (.iconst 0, 1) := by decide +kernel
theorem dk_Se_bestFor_6 : decode mi_Se_bestFor.2.1 6 = .ok (.istore 5, 2) := by decide +kernel
theorem dk_Se_bestFor_8 : decode mi_Se_bestFor.2.1 8 = .ok (.iload 5, 2) := by decide +kernel
theorem dk_Se_bestFor_10 : decode mi_Se_bestFor.2.1 10 = .ok (.aload_n 0, 1) := by decide +kernel
theorem dk_Se_bestFor_11 : decode mi_Se_bestFor.2.1 11 = .ok (.getfield 21, 3) := by decide +kernel
theorem dk_Se_bestFor_14 : decode mi_Se_bestFor.2.1 14 = .ok (.if_icmp .ge 71, 3) := by decide +kernel
theorem dk_Se_bestFor_17 : decode mi_Se_bestFor.2.1 17 = .ok (.aload_n 0, 1) := by decide +kernel
theorem dk_Se_bestFor_18 : decode mi_Se_bestFor.2.1 18 = .ok (.getfield 18, 3) := by decide +kernel
theorem dk_Se_bestFor_21 : decode mi_Se_bestFor.2.1 21 = .ok (.iload 5, 2) := by decide +kernel
theorem dk_Se_bestFor_23 : decode mi_Se_bestFor.2.1 23 = .ok (.iaload, 1) := by decide +kernel
theorem dk_Se_bestFor_24 : decode mi_Se_bestFor.2.1 24 = .ok (.iload_n 2, 1) := by decide +kernel
theorem dk_Se_bestFor_25 : decode mi_Se_bestFor.2.1 25 = .ok (.ior, 1) := by decide +kernel
theorem dk_Se_bestFor_26 : decode mi_Se_bestFor.2.1 26 = .ok (.invokestatic 42, 3) := by decide +kernel
theorem dk_Se_bestFor_29 : decode mi_Se_bestFor.2.1 29 = .ok (.istore 6, 2) := by decide +kernel
theorem dk_Se_bestFor_31 : decode mi_Se_bestFor.2.1 31 = .ok (.aload_n 0, 1) := by decide +kernel
theorem dk_Se_bestFor_32 : decode mi_Se_bestFor.2.1 32 = .ok (.getfield 15, 3) := by decide +kernel
theorem dk_Se_bestFor_35 : decode mi_Se_bestFor.2.1 35 = .ok (.iload 5, 2) := by decide +kernel
theorem dk_Se_bestFor_37 : decode mi_Se_bestFor.2.1 37 = .ok (.iaload, 1) := by decide +kernel
theorem dk_Se_bestFor_38 : decode mi_Se_bestFor.2.1 38 = .ok (.iload_n 1, 1) := by decide +kernel
theorem dk_Se_bestFor_39 : decode mi_Se_bestFor.2.1 39 = .ok (.if_icmp .gt 40, 3) := by decide +kernel
theorem dk_Se_bestFor_42 : decode mi_Se_bestFor.2.1 42 = .ok (.iload 6, 2) := by decide +kernel
theorem dk_Se_bestFor_44 : decode mi_Se_bestFor.2.1 44 = .ok (.iload 4, 2) := by decide +kernel
theorem dk_Se_bestFor_46 : decode mi_Se_bestFor.2.1 46 = .ok (.if_icmp .gt 26, 3) := by decide +kernel
theorem dk_Se_bestFor_49 : decode mi_Se_bestFor.2.1 49 = .ok (.iload 6, 2) := by decide +kernel
theorem dk_Se_bestFor_51 : decode mi_Se_bestFor.2.1 51 = .ok (.iload 4, 2) := by decide +kernel
theorem dk_Se_bestFor_53 : decode mi_Se_bestFor.2.1 53 = .ok (.if_icmp .ne 26, 3) := by decide +kernel
theorem dk_Se_bestFor_56 : decode mi_Se_bestFor.2.1 56 = .ok (.aload_n 0, 1) := by decide +kernel
theorem dk_Se_bestFor_57 : decode mi_Se_bestFor.2.1 57 = .ok (.getfield 15, 3) := by decide +kernel
theorem dk_Se_bestFor_60 : decode mi_Se_bestFor.2.1 60 = .ok (.iload 5, 2) := by decide +kernel
theorem dk_Se_bestFor_62 : decode mi_Se_bestFor.2.1 62 = .ok (.iaload, 1) := by decide +kernel
theorem dk_Se_bestFor_63 : decode mi_Se_bestFor.2.1 63 = .ok (.aload_n 0, 1) := by decide +kernel
theorem dk_Se_bestFor_64 : decode mi_Se_bestFor.2.1 64 = .ok (.getfield 15, 3) := by decide +kernel
theorem dk_Se_bestFor_67 : decode mi_Se_bestFor.2.1 67 = .ok (.iload_n 3, 1) := by decide +kernel
theorem dk_Se_bestFor_68 : decode mi_Se_bestFor.2.1 68 = .ok (.iaload, 1) := by decide +kernel
theorem dk_Se_bestFor_69 : decode mi_Se_bestFor.2.1 69 = .ok (.if_icmp .ge 10, 3) := by decide +kernel
theorem dk_Se_bestFor_72 : decode mi_Se_bestFor.2.1 72 = .ok (.iload 6, 2) := by decide +kernel
theorem dk_Se_bestFor_74 : decode mi_Se_bestFor.2.1 74 = .ok (.istore 4, 2) := by decide +kernel
theorem dk_Se_bestFor_76 : decode mi_Se_bestFor.2.1 76 = .ok (.iload 5, 2) := by decide +kernel
theorem dk_Se_bestFor_78 : decode mi_Se_bestFor.2.1 78 = .ok (.istore_n 3, 1) := by decide +kernel
theorem dk_Se_bestFor_79 : decode mi_Se_bestFor.2.1 79 = .ok (.iinc 5 1, 3) := by decide +kernel
theorem dk_Se_bestFor_82 : decode mi_Se_bestFor.2.1 82 = .ok (.goto (-74), 3) := by decide +kernel
theorem dk_Se_bestFor_85 : decode mi_Se_bestFor.2.1 85 = .ok (.aload_n 0, 1) := by decide +kernel
theorem dk_Se_bestFor_86 : decode mi_Se_bestFor.2.1 86 = .ok (.getfield 11, 3) := by decide +kernel
theorem dk_Se_bestFor_89 : decode mi_Se_bestFor.2.1 89 = .ok (.iload_n 3, 1) := by decide +kernel
theorem dk_Se_bestFor_90 : decode mi_Se_bestFor.2.1 90 = .ok (.iaload, 1) := by decide +kernel
theorem dk_Se_bestFor_91 : decode mi_Se_bestFor.2.1 91 = .ok (.ireturn, 1) := by decide +kernel
def Se_bestFor_j72 (k_8 : Int32 → Int32 → Int32 → Int32 → Int32 → nm_St → Option (Int32 × nm_St)) (x1 : Int32) (x2 : Int32) (x5 : Int32) (x6 : Int32) (σ : nm_St) : Option (Int32 × nm_St) :=
  k_8 x1 x2 x5 x6 (x5 + (1 : Int32)) σ
set_option maxRecDepth 100000 in
set_option maxHeartbeats 4000000 in
theorem r_Se_bestFor_j72 (X : nm_X) (F : nm_F) (hF0 : 1 ≤ nm_d F) (k_8 : Int32 → Int32 → Int32 → Int32 → Int32 → nm_St → Option (Int32 × nm_St)) (hk_8 : ∀ (x1 : Int32) (x2 : Int32) (x3 : Int32) (x4 : Int32) (x5 : Int32) (σ : nm_St), Rn X mi_Se_bestFor F (nm_Qf X F nm_wI) [(0, .ref 23), (1, .int x1), (2, .int x2), (3, .int x3), (4, .int x4), (5, .int x5)] [] 8 σ (k_8 x1 x2 x3 x4 x5 σ)) (x1 : Int32) (x2 : Int32) (x5 : Int32) (x6 : Int32) (σ : nm_St) : Rn X mi_Se_bestFor F (nm_Qf X F nm_wI) [(0, .ref 23), (1, .int x1), (2, .int x2), (5, .int x5), (6, .int x6)] [] 72 σ (Se_bestFor_j72 k_8 x1 x2 x5 x6 σ) := by
  unfold Se_bestFor_j72
  refine rn_iload (pc := 72) dk_Se_bestFor_72 rfl ?_
  refine rn_istore (pc := 74) dk_Se_bestFor_74 rfl rfl ?_
  refine rn_iload (pc := 76) dk_Se_bestFor_76 rfl ?_
  refine rn_istore_n (pc := 78) 3 dk_Se_bestFor_78 rfl rfl rfl ?_
  refine rn_iinc (pc := 79) (1 : Int32) dk_Se_bestFor_79 cn_i_1 rfl rfl rfl ?_
  refine rn_goto (pc := 82) 8 dk_Se_bestFor_82 (by decide) ?_
  exact rn_sub (by rfl) (hk_8 x1 x2 x5 x6 (x5 + (1 : Int32)) σ)
def Se_bestFor_l8 (k_85 : Int32 → nm_St → Option (Int32 × nm_St)) : Nat → Int32 → Int32 → Int32 → Int32 → Int32 → nm_St → Option (Int32 × nm_St)
  | 0, _, _, _, _, _, _ => none
  | n + 1, x1, x2, x3, x4, x5, σ =>
    (if (σ.1 23 3) ≤ x5 then
      k_85 x3 σ
    else
      (nm_g (nm_in x5 256) (
      ((Ji_bitCount ((σ.1 26 x5.toNatClampNeg) ||| x2) σ).bind fun q3 =>
      (nm_g (nm_in x5 256) (
      (if x1 < (q3.2.1 25 x5.toNatClampNeg) then
        (Se_bestFor_l8 k_85 n) x1 x2 x3 x4 (x5 + (1 : Int32)) q3.2
      else
        (if x4 < q3.1 then
          Se_bestFor_j72 (Se_bestFor_l8 k_85 n) x1 x2 x5 q3.1 q3.2
        else
          (if q3.1 = x4 then
            (nm_g (nm_in x5 256) (
            (nm_g (nm_in x3 256) (
            (if (q3.2.1 25 x3.toNatClampNeg) ≤ (q3.2.1 25 x5.toNatClampNeg) then
              (Se_bestFor_l8 k_85 n) x1 x2 x3 x4 (x5 + (1 : Int32)) q3.2
            else
              Se_bestFor_j72 (Se_bestFor_l8 k_85 n) x1 x2 x5 q3.1 q3.2)))))
          else
            (Se_bestFor_l8 k_85 n) x1 x2 x3 x4 (x5 + (1 : Int32)) q3.2)))))))))
set_option maxRecDepth 100000 in
set_option maxHeartbeats 4000000 in
theorem r_Se_bestFor_l8 (X : nm_X) (F : nm_F) (hF0 : 1 ≤ nm_d F) (k_85 : Int32 → nm_St → Option (Int32 × nm_St)) (hk_85 : ∀ (x3 : Int32) (σ : nm_St), Rn X mi_Se_bestFor F (nm_Qf X F nm_wI) [(0, .ref 23), (3, .int x3)] [] 85 σ (k_85 x3 σ)) : ∀ (n : Nat) (x1 : Int32) (x2 : Int32) (x3 : Int32) (x4 : Int32) (x5 : Int32) (σ : nm_St), Rn X mi_Se_bestFor F (nm_Qf X F nm_wI) [(0, .ref 23), (1, .int x1), (2, .int x2), (3, .int x3), (4, .int x4), (5, .int x5)] [] 8 σ (Se_bestFor_l8 k_85 n x1 x2 x3 x4 x5 σ) := by
  intro n
  induction n with
  | zero =>
    intro x1 x2 x3 x4 x5 σ
    exact rn_none
  | succ n ih =>
    intro x1 x2 x3 x4 x5 σ
    unfold Se_bestFor_l8
    refine rn_iload (pc := 8) dk_Se_bestFor_8 rfl ?_
    refine rn_aload_n (pc := 10) 0 dk_Se_bestFor_10 rfl rfl rfl ?_
    refine gf_Se_21 (pc := 11) rfl dk_Se_bestFor_11 ?_
    refine rn_icmp_ge (pc := 14) 85 dk_Se_bestFor_14 (by decide) (fun c1 => ?_) (fun c1 => ?_)
    · exact rn_sub (by rfl) (hk_85 x3 σ)
    · refine rn_aload_n (pc := 17) 0 dk_Se_bestFor_17 rfl rfl rfl ?_
      refine gf_Se_18 (pc := 18) rfl dk_Se_bestFor_18 ?_
      refine rn_iload (pc := 21) dk_Se_bestFor_21 rfl ?_
      refine rn_iaload (pc := 23) rfl dk_Se_bestFor_23 (fun g2 => ?_)
      refine rn_iload_n (pc := 24) 2 dk_Se_bestFor_24 rfl rfl ?_
      refine rn_ior (pc := 25) dk_Se_bestFor_25 ?_
      refine cl_Se_42 (pc := 26) (As := [.int ((σ.1 26 x5.toNatClampNeg) ||| x2)]) (st := []) rfl (ct_Ji_bitCount X ((σ.1 26 x5.toNatClampNeg) ||| x2) σ) (Nat.le_trans (Nat.le_of_ble_eq_true rfl) hF0) rfl rfl (Nat.le_of_ble_eq_true rfl) dk_Se_bestFor_26 (fun q3 => ?_)
      refine rn_istore (pc := 29) dk_Se_bestFor_29 rfl rfl ?_
      refine rn_aload_n (pc := 31) 0 dk_Se_bestFor_31 rfl rfl rfl ?_
      refine gf_Se_15 (pc := 32) rfl dk_Se_bestFor_32 ?_
      refine rn_iload (pc := 35) dk_Se_bestFor_35 rfl ?_
      refine rn_iaload (pc := 37) rfl dk_Se_bestFor_37 (fun g4 => ?_)
      refine rn_iload_n (pc := 38) 1 dk_Se_bestFor_38 rfl rfl ?_
      refine rn_icmp_gt (pc := 39) 79 dk_Se_bestFor_39 (by decide) (fun c5 => ?_) (fun c5 => ?_)
      · refine rn_iinc (pc := 79) (1 : Int32) dk_Se_bestFor_79 cn_i_1 rfl rfl rfl ?_
        refine rn_goto (pc := 82) 8 dk_Se_bestFor_82 (by decide) ?_
        exact rn_sub (by rfl) (ih x1 x2 x3 x4 (x5 + (1 : Int32)) q3.2)
      · refine rn_iload (pc := 42) dk_Se_bestFor_42 rfl ?_
        refine rn_iload (pc := 44) dk_Se_bestFor_44 rfl ?_
        refine rn_icmp_gt (pc := 46) 72 dk_Se_bestFor_46 (by decide) (fun c6 => ?_) (fun c6 => ?_)
        · exact rn_sub (by rfl) (r_Se_bestFor_j72 X F hF0 _ ih x1 x2 x5 q3.1 q3.2)
        · refine rn_iload (pc := 49) dk_Se_bestFor_49 rfl ?_
          refine rn_iload (pc := 51) dk_Se_bestFor_51 rfl ?_
          refine rn_icmp_ne (pc := 53) 79 dk_Se_bestFor_53 (by decide) (fun c7 => ?_) (fun c7 => ?_)
          · refine rn_iinc (pc := 79) (1 : Int32) dk_Se_bestFor_79 cn_i_1 rfl rfl rfl ?_
            refine rn_goto (pc := 82) 8 dk_Se_bestFor_82 (by decide) ?_
            exact rn_sub (by rfl) (ih x1 x2 x3 x4 (x5 + (1 : Int32)) q3.2)
          · refine rn_aload_n (pc := 56) 0 dk_Se_bestFor_56 rfl rfl rfl ?_
            refine gf_Se_15 (pc := 57) rfl dk_Se_bestFor_57 ?_
            refine rn_iload (pc := 60) dk_Se_bestFor_60 rfl ?_
            refine rn_iaload (pc := 62) rfl dk_Se_bestFor_62 (fun g8 => ?_)
            refine rn_aload_n (pc := 63) 0 dk_Se_bestFor_63 rfl rfl rfl ?_
            refine gf_Se_15 (pc := 64) rfl dk_Se_bestFor_64 ?_
            refine rn_iload_n (pc := 67) 3 dk_Se_bestFor_67 rfl rfl ?_
            refine rn_iaload (pc := 68) rfl dk_Se_bestFor_68 (fun g9 => ?_)
            refine rn_icmp_ge (pc := 69) 79 dk_Se_bestFor_69 (by decide) (fun c10 => ?_) (fun c10 => ?_)
            · refine rn_iinc (pc := 79) (1 : Int32) dk_Se_bestFor_79 cn_i_1 rfl rfl rfl ?_
              refine rn_goto (pc := 82) 8 dk_Se_bestFor_82 (by decide) ?_
              exact rn_sub (by rfl) (ih x1 x2 x3 x4 (x5 + (1 : Int32)) q3.2)
            · exact rn_sub (by rfl) (r_Se_bestFor_j72 X F hF0 _ ih x1 x2 x5 q3.1 q3.2)
def Se_bestFor (p1 : Int32) (p2 : Int32) (σ : nm_St) : Option (Int32 × nm_St) :=
  Se_bestFor_l8 (fun (e12 : Int32) (s11 : nm_St) =>
    (nm_g (nm_in e12 256) (
    some ((s11.1 24 e12.toNatClampNeg), s11)))) 400 p1 p2 (0 : Int32) (-1 : Int32) (0 : Int32) σ
set_option maxRecDepth 100000 in
set_option maxHeartbeats 4000000 in
theorem ct_Se_bestFor (X : nm_X) (p1 : Int32) (p2 : Int32) (σ : nm_St) : Ct X mi_Se_bestFor 1 nm_wI [.ref 23, .int p1, .int p2] σ (Se_bestFor p1 p2 σ) := by
  refine Ct.of (by decide +kernel) rfl (fun F hF0 => ?_)
  unfold Se_bestFor
  refine rn_iconst (pc := 0) (0 : Int32) dk_Se_bestFor_0 cn_i_0 ?_
  refine rn_istore_n (pc := 1) 3 dk_Se_bestFor_1 rfl rfl rfl ?_
  refine rn_iconst (pc := 2) (-1 : Int32) dk_Se_bestFor_2 cn_i_m1 ?_
  refine rn_istore (pc := 3) dk_Se_bestFor_3 rfl rfl ?_
  refine rn_iconst (pc := 5) (0 : Int32) dk_Se_bestFor_5 cn_i_0 ?_
  refine rn_istore (pc := 6) dk_Se_bestFor_6 rfl rfl ?_
  refine rn_sub (by rfl) (r_Se_bestFor_l8 X F hF0 _ (fun e12 s11 => ?_) 400 p1 p2 (0 : Int32) (-1 : Int32) (0 : Int32) σ)
  refine rn_aload_n (pc := 85) 0 dk_Se_bestFor_85 rfl rfl rfl ?_
  refine gf_Se_11 (pc := 86) rfl dk_Se_bestFor_86 ?_
  refine rn_iload_n (pc := 89) 3 dk_Se_bestFor_89 rfl rfl ?_
  refine rn_iaload (pc := 90) rfl dk_Se_bestFor_90 (fun g13 => ?_)
  exact rn_iret rfl dk_Se_bestFor_91
theorem dk_Nm_spend_0 : decode mi_Nm_spend.2.1 0 = .ok (.aload_n 0, 1) := by decide +kernel
theorem dk_Nm_spend_1 : decode mi_Nm_spend.2.1 1 = .ok (.getfield 31, 3) := by decide +kernel
theorem dk_Nm_spend_4 : decode mi_Nm_spend.2.1 4 = .ok (.aload_n 0, 1) := by decide +kernel
theorem dk_Nm_spend_5 : decode mi_Nm_spend.2.1 5 = .ok (.getfield 18, 3) := by decide +kernel
theorem dk_Nm_spend_8 : decode mi_Nm_spend.2.1 8 = .ok (.aload_n 0, 1) := by decide +kernel
theorem dk_Nm_spend_9 : decode mi_Nm_spend.2.1 9 = .ok (.getfield 18, 3) := by decide +kernel
theorem dk_Nm_spend_12 : decode mi_Nm_spend.2.1 12 = .ok (.iconst 0, 1) := by decide +kernel
theorem dk_Nm_spend_13 : decode mi_Nm_spend.2.1 13 = .ok (.invokevirtual 199, 3) := by decide +kernel
theorem dk_Nm_spend_16 : decode mi_Nm_spend.2.1 16 = .ok (.invokevirtual 202, 3) := by decide +kernel
theorem dk_Nm_spend_19 : decode mi_Nm_spend.2.1 19 = .ok (.aload_n 0, 1) := by decide +kernel
theorem dk_Nm_spend_20 : decode mi_Nm_spend.2.1 20 = .ok (.getfield 31, 3) := by decide +kernel
theorem dk_Nm_spend_23 : decode mi_Nm_spend.2.1 23 = .ok (.aload_n 0, 1) := by decide +kernel
theorem dk_Nm_spend_24 : decode mi_Nm_spend.2.1 24 = .ok (.getfield 18, 3) := by decide +kernel
theorem dk_Nm_spend_27 : decode mi_Nm_spend.2.1 27 = .ok (.getfield 171, 3) := by decide +kernel
theorem dk_Nm_spend_30 : decode mi_Nm_spend.2.1 30 = .ok (.aload_n 0, 1) := by decide +kernel
theorem dk_Nm_spend_31 : decode mi_Nm_spend.2.1 31 = .ok (.getfield 18, 3) := by decide +kernel
theorem dk_Nm_spend_34 : decode mi_Nm_spend.2.1 34 = .ok (.invokevirtual 196, 3) := by decide +kernel
theorem dk_Nm_spend_37 : decode mi_Nm_spend.2.1 37 = .ok (.invokevirtual 242, 3) := by decide +kernel
theorem dk_Nm_spend_40 : decode mi_Nm_spend.2.1 40 = .ok (.ireturn, 1) := by decide +kernel
def Nm_spend (σ : nm_St) : Option (Int32 × nm_St) :=
  ((Is_thoseAt 2 (0 : Int32) σ).bind fun q1 =>
  ((Se_layOut 2 q1.1 q1.2).bind fun q2 =>
  ((Is_knownAbroad 2 q2.2).bind fun q3 =>
  ((Se_bestFor (q2.2.1 2 9) q3.1 q3.2).bind fun q4 =>
  some (q4.1, q4.2)))))
set_option maxRecDepth 100000 in
set_option maxHeartbeats 4000000 in
theorem ct_Nm_spend (X : nm_X) (σ : nm_St) : Ct X mi_Nm_spend 4 nm_wI [.ref 0] σ (Nm_spend σ) := by
  refine Ct.of (by decide +kernel) rfl (fun F hF0 => ?_)
  unfold Nm_spend
  refine rn_aload_n (pc := 0) 0 dk_Nm_spend_0 rfl rfl rfl ?_
  refine gf_Nm_31 (pc := 1) rfl dk_Nm_spend_1 ?_
  refine rn_aload_n (pc := 4) 0 dk_Nm_spend_4 rfl rfl rfl ?_
  refine gf_Nm_18 (pc := 5) rfl dk_Nm_spend_5 ?_
  refine rn_aload_n (pc := 8) 0 dk_Nm_spend_8 rfl rfl rfl ?_
  refine gf_Nm_18 (pc := 9) rfl dk_Nm_spend_9 ?_
  refine rn_iconst (pc := 12) (0 : Int32) dk_Nm_spend_12 cn_i_0 ?_
  refine cl_Nm_199 (pc := 13) (As := [.int (0 : Int32)]) (st := [.ref 2, .ref 23]) 2 rfl rfl (ct_Is_thoseAt X 2 rfl (0 : Int32) σ) (Nat.le_trans (Nat.le_of_ble_eq_true rfl) hF0) rfl rfl (Nat.le_of_ble_eq_true rfl) dk_Nm_spend_13 (fun q1 => ?_)
  refine cl_Nm_202 (pc := 16) (As := [.ref 2, .int q1.1]) (st := []) rfl (ct_Se_layOut X 2 rfl q1.1 q1.2) (Nat.le_trans (Nat.le_of_ble_eq_true rfl) hF0) rfl rfl (Nat.le_of_ble_eq_true rfl) dk_Nm_spend_16 (fun q2 => ?_)
  refine rn_aload_n (pc := 19) 0 dk_Nm_spend_19 rfl rfl rfl ?_
  refine gf_Nm_31 (pc := 20) rfl dk_Nm_spend_20 ?_
  refine rn_aload_n (pc := 23) 0 dk_Nm_spend_23 rfl rfl rfl ?_
  refine gf_Nm_18 (pc := 24) rfl dk_Nm_spend_24 ?_
  refine gf_Nm_171 (pc := 27) 2 rfl rfl dk_Nm_spend_27 ?_
  refine rn_aload_n (pc := 30) 0 dk_Nm_spend_30 rfl rfl rfl ?_
  refine gf_Nm_18 (pc := 31) rfl dk_Nm_spend_31 ?_
  refine cl_Nm_196 (pc := 34) (As := []) (st := [.int (q2.2.1 2 9), .ref 23]) 2 rfl rfl (ct_Is_knownAbroad X 2 rfl q2.2) (Nat.le_trans (Nat.le_of_ble_eq_true rfl) hF0) rfl rfl (Nat.le_of_ble_eq_true rfl) dk_Nm_spend_34 (fun q3 => ?_)
  refine cl_Nm_242 (pc := 37) (As := [.int (q2.2.1 2 9), .int q3.1]) (st := []) rfl (ct_Se_bestFor X (q2.2.1 2 9) q3.1 q3.2) (Nat.le_trans (Nat.le_of_ble_eq_true rfl) hF0) rfl rfl (Nat.le_of_ble_eq_true rfl) dk_Nm_spend_37 (fun q4 => ?_)
  exact rn_iret rfl dk_Nm_spend_40
