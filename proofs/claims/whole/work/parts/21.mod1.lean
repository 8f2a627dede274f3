theorem dk_Md_makerOf_0 : decode mi_Md_makerOf.2.1 0 = .ok (.aload_n 0, 1) := by decide +kernel
theorem dk_Md_makerOf_1 : decode mi_Md_makerOf.2.1 1 = .ok (.iload_n 1, 1) := by decide +kernel
theorem dk_Md_makerOf_2 : decode mi_Md_makerOf.2.1 2 = .ok (.invokevirtual 101, 3) := by decide +kernel
theorem dk_Md_makerOf_5 : decode mi_Md_makerOf.2.1 5 = .ok (.ifCond .ne 10, 3) := by decide +kernel
theorem dk_Md_makerOf_8 : decode mi_Md_makerOf.2.1 8 = .ok (.aload_n 0, 1) := by decide +kernel
theorem dk_Md_makerOf_9 : decode mi_Md_makerOf.2.1 9 = .ok (.bipush (-5), 2) := by decide +kernel
theorem dk_Md_makerOf_11 : decode mi_Md_makerOf.2.1 11 = .ok (.invokevirtual 97, 3) := by decide +kernel
theorem dk_Md_makerOf_14 : decode mi_Md_makerOf.2.1 14 = .ok (.ireturn, 1) := by decide +kernel
theorem dk_Md_makerOf_15 : decode mi_Md_makerOf.2.1 15 = .ok (.iload_n 2, 1) := by decide +kernel
theorem dk_Md_makerOf_16 : decode mi_Md_makerOf.2.1 16 = .ok (.tableswitch 92 0 6 #[44, 51, 58, 65, 72, 79, 86], 44) := by decide +kernel
theorem dk_Md_makerOf_60 : decode mi_Md_makerOf.2.1 60 = .ok (.aload_n 0, 1) := by decide +kernel
theorem dk_Md_makerOf_61 : decode mi_Md_makerOf.2.1 61 = .ok (.getfield 26, 3) := by decide +kernel
theorem dk_Md_makerOf_64 : decode mi_Md_makerOf.2.1 64 = .ok (.iload_n 1, 1) := by decide +kernel
theorem dk_Md_makerOf_65 : decode mi_Md_makerOf.2.1 65 = .ok (.iaload, 1) := by decide +kernel
theorem dk_Md_makerOf_66 : decode mi_Md_makerOf.2.1 66 = .ok (.ireturn, 1) := by decide +kernel
theorem dk_Md_makerOf_67 : decode mi_Md_makerOf.2.1 67 = .ok (.aload_n 0, 1) := by decide +kernel
theorem dk_Md_makerOf_68 : decode mi_Md_makerOf.2.1 68 = .ok (.getfield 29, 3) := by decide +kernel
theorem dk_Md_makerOf_71 : decode mi_Md_makerOf.2.1 71 = .ok (.iload_n 1, 1) := by decide +kernel
theorem dk_Md_makerOf_72 : decode mi_Md_makerOf.2.1 72 = .ok (.iaload, 1) := by decide +kernel
theorem dk_Md_makerOf_73 : decode mi_Md_makerOf.2.1 73 = .ok (.ireturn, 1) := by decide +kernel
theorem dk_Md_makerOf_74 : decode mi_Md_makerOf.2.1 74 = .ok (.aload_n 0, 1) := by decide +kernel
theorem dk_Md_makerOf_75 : decode mi_Md_makerOf.2.1 75 = .ok (.getfield 32, 3) := by decide +kernel
theorem dk_Md_makerOf_78 : decode mi_Md_makerOf.2.1 78 = .ok (.iload_n 1, 1) := by decide +kernel
theorem dk_Md_makerOf_79 : decode mi_Md_makerOf.2.1 79 = .ok (.iaload, 1) := by decide +kernel
theorem dk_Md_makerOf_80 : decode mi_Md_makerOf.2.1 80 = .ok (.ireturn, 1) := by decide +kernel
theorem dk_Md_makerOf_81 : decode mi_Md_makerOf.2.1 81 = .ok (.aload_n 0, 1) := by decide +kernel
theorem dk_Md_makerOf_82 : decode mi_Md_makerOf.2.1 82 = .ok (.getfield 35, 3) := by decide +kernel
theorem dk_Md_makerOf_85 : decode mi_Md_makerOf.2.1 85 = .ok (.iload_n 1, 1) := by decide +kernel
theorem dk_Md_makerOf_86 : decode mi_Md_makerOf.2.1 86 = .ok (.iaload, 1) := by decide +kernel
theorem dk_Md_makerOf_87 : decode mi_Md_makerOf.2.1 87 = .ok (.ireturn, 1) := by decide +kernel
theorem dk_Md_makerOf_88 : decode mi_Md_makerOf.2.1 88 = .ok (.aload_n 0, 1) := by decide +kernel
theorem dk_Md_makerOf_89 : decode mi_Md_makerOf.2.1 89 = .ok (.getfield 38, 3) := by decide +kernel
theorem dk_Md_makerOf_92 : decode mi_Md_makerOf.2.1 92 = .ok (.iload_n 1, 1) := by decide +kernel
theorem dk_Md_makerOf_93 : decode mi_Md_makerOf.2.1 93 = .ok (.iaload, 1) := by decide +kernel
theorem dk_Md_makerOf_94 : decode mi_Md_makerOf.2.1 94 = .ok (.ireturn, 1) := by decide +kernel
theorem dk_Md_makerOf_95 : decode mi_Md_makerOf.2.1 95 = .ok (.aload_n 0, 1) := by decide +kernel
theorem dk_Md_makerOf_96 : decode mi_Md_makerOf.2.1 96 = .ok (.getfield 41, 3) := by decide +kernel
theorem dk_Md_makerOf_99 : decode mi_Md_makerOf.2.1 99 = .ok (.iload_n 1, 1) := by decide +kernel
theorem dk_Md_makerOf_100 : decode mi_Md_makerOf.2.1 100 = .ok (.iaload, 1) := by decide +kernel
theorem dk_Md_makerOf_101 : decode mi_Md_makerOf.2.1 101 = .ok (.ireturn, 1) := by decide +kernel
theorem dk_Md_makerOf_102 : decode mi_Md_makerOf.2.1 102 = .ok (.aload_n 0, 1) := by decide +kernel
theorem dk_Md_makerOf_103 : decode mi_Md_makerOf.2.1 103 = .ok (.iload_n 1, 1) := by decide +kernel
theorem dk_Md_makerOf_104 : decode mi_Md_makerOf.2.1 104 = .ok (.invokevirtual 107, 3) := by decide +kernel
theorem dk_Md_makerOf_107 : decode mi_Md_makerOf.2.1 107 = .ok (.ireturn, 1) := by decide +kernel
theorem dk_Md_makerOf_108 : decode mi_Md_makerOf.2.1 108 = .ok (.aload_n 0, 1) := by decide +kernel
theorem dk_Md_makerOf_109 : decode mi_Md_makerOf.2.1 109 = .ok (.bipush (-5), 2) := by decide +kernel
theorem dk_Md_makerOf_111 : decode mi_Md_makerOf.2.1 111 = .ok (.invokevirtual 97, 3) := by decide +kernel
theorem dk_Md_makerOf_114 : decode mi_Md_makerOf.2.1 114 = .ok (.ireturn, 1) := by decide +kernel
def Md_makerOf (p1 : Int32) (p2 : Int32) (σ : nm_St) : Option (Int32 × nm_St) :=
  ((Md_isMaker p1 σ).bind fun q1 =>
  (if q1.1 = 0 then
    ((Md_no (-5 : Int32) q1.2).bind fun q12 =>
    some (q12.1, q12.2))
  else
    (if p2 = (0 : Int32) then
      (nm_g (nm_in p1 8) (
      some ((q1.2.1 72 p1.toNatClampNeg), q1.2)))
    else
    (if p2 = (1 : Int32) then
      (nm_g (nm_in p1 8) (
      some ((q1.2.1 73 p1.toNatClampNeg), q1.2)))
    else
    (if p2 = (2 : Int32) then
      (nm_g (nm_in p1 8) (
      some ((q1.2.1 74 p1.toNatClampNeg), q1.2)))
    else
    (if p2 = (3 : Int32) then
      (nm_g (nm_in p1 8) (
      some ((q1.2.1 75 p1.toNatClampNeg), q1.2)))
    else
    (if p2 = (4 : Int32) then
      (nm_g (nm_in p1 8) (
      some ((q1.2.1 76 p1.toNatClampNeg), q1.2)))
    else
    (if p2 = (5 : Int32) then
      (nm_g (nm_in p1 8) (
      some ((q1.2.1 77 p1.toNatClampNeg), q1.2)))
    else
    (if p2 = (6 : Int32) then
      ((Md_price p1 q1.2).bind fun q10 =>
      some (q10.1, q10.2))
    else
      ((Md_no (-5 : Int32) q1.2).bind fun q11 =>
      some (q11.1, q11.2)))))))))))
set_option maxRecDepth 100000 in
set_option maxHeartbeats 4000000 in
theorem ct_Md_makerOf (X : nm_X) (p1 : Int32) (p2 : Int32) (σ : nm_St) : Ct X mi_Md_makerOf 3 nm_wI [.ref 70, .int p1, .int p2] σ (Md_makerOf p1 p2 σ) := by
  refine Ct.of (by decide +kernel) rfl (fun F hF0 => ?_)
  unfold Md_makerOf
  refine rn_aload_n (pc := 0) 0 dk_Md_makerOf_0 rfl rfl rfl ?_
  refine rn_iload_n (pc := 1) 1 dk_Md_makerOf_1 rfl rfl ?_
  refine cl_Md_101 (pc := 2) (As := [.int p1]) (st := []) rfl (ct_Md_isMaker X p1 σ) (Nat.le_trans (Nat.le_of_ble_eq_true rfl) hF0) rfl rfl (Nat.le_of_ble_eq_true rfl) dk_Md_makerOf_2 (fun q1 => ?_)
  refine rn_if_ne (pc := 5) 15 dk_Md_makerOf_5 (by decide) (fun c2 => ?_) (fun c2 => ?_)
  · refine rn_iload_n (pc := 15) 2 dk_Md_makerOf_15 rfl rfl ?_
    refine rn_tcase (pc := 16) 0 (0 : Int32) 60 dk_Md_makerOf_16 (by decide) (by decide) rfl (by decide) (fun c3_0 => ?_) (fun c3_0 => ?_)
    · refine rn_aload_n (pc := 60) 0 dk_Md_makerOf_60 rfl rfl rfl ?_
      refine gf_Md_26 (pc := 61) rfl dk_Md_makerOf_61 ?_
      refine rn_iload_n (pc := 64) 1 dk_Md_makerOf_64 rfl rfl ?_
      refine rn_iaload (pc := 65) rfl dk_Md_makerOf_65 (fun g4 => ?_)
      exact rn_iret rfl dk_Md_makerOf_66
    refine rn_tcase (pc := 16) 1 (1 : Int32) 67 dk_Md_makerOf_16 (by decide) (by decide) rfl (by decide) (fun c3_1 => ?_) (fun c3_1 => ?_)
    · refine rn_aload_n (pc := 67) 0 dk_Md_makerOf_67 rfl rfl rfl ?_
      refine gf_Md_29 (pc := 68) rfl dk_Md_makerOf_68 ?_
      refine rn_iload_n (pc := 71) 1 dk_Md_makerOf_71 rfl rfl ?_
      refine rn_iaload (pc := 72) rfl dk_Md_makerOf_72 (fun g5 => ?_)
      exact rn_iret rfl dk_Md_makerOf_73
    refine rn_tcase (pc := 16) 2 (2 : Int32) 74 dk_Md_makerOf_16 (by decide) (by decide) rfl (by decide) (fun c3_2 => ?_) (fun c3_2 => ?_)
    · refine rn_aload_n (pc := 74) 0 dk_Md_makerOf_74 rfl rfl rfl ?_
      refine gf_Md_32 (pc := 75) rfl dk_Md_makerOf_75 ?_
      refine rn_iload_n (pc := 78) 1 dk_Md_makerOf_78 rfl rfl ?_
      refine rn_iaload (pc := 79) rfl dk_Md_makerOf_79 (fun g6 => ?_)
      exact rn_iret rfl dk_Md_makerOf_80
    refine rn_tcase (pc := 16) 3 (3 : Int32) 81 dk_Md_makerOf_16 (by decide) (by decide) rfl (by decide) (fun c3_3 => ?_) (fun c3_3 => ?_)
    · refine rn_aload_n (pc := 81) 0 dk_Md_makerOf_81 rfl rfl rfl ?_
      refine gf_Md_35 (pc := 82) rfl dk_Md_makerOf_82 ?_
      refine rn_iload_n (pc := 85) 1 dk_Md_makerOf_85 rfl rfl ?_
      refine rn_iaload (pc := 86) rfl dk_Md_makerOf_86 (fun g7 => ?_)
      exact rn_iret rfl dk_Md_makerOf_87
    refine rn_tcase (pc := 16) 4 (4 : Int32) 88 dk_Md_makerOf_16 (by decide) (by decide) rfl (by decide) (fun c3_4 => ?_) (fun c3_4 => ?_)
    · refine rn_aload_n (pc := 88) 0 dk_Md_makerOf_88 rfl rfl rfl ?_
      refine gf_Md_38 (pc := 89) rfl dk_Md_makerOf_89 ?_
      refine rn_iload_n (pc := 92) 1 dk_Md_makerOf_92 rfl rfl ?_
      refine rn_iaload (pc := 93) rfl dk_Md_makerOf_93 (fun g8 => ?_)
      exact rn_iret rfl dk_Md_makerOf_94
    refine rn_tcase (pc := 16) 5 (5 : Int32) 95 dk_Md_makerOf_16 (by decide) (by decide) rfl (by decide) (fun c3_5 => ?_) (fun c3_5 => ?_)
    · refine rn_aload_n (pc := 95) 0 dk_Md_makerOf_95 rfl rfl rfl ?_
      refine gf_Md_41 (pc := 96) rfl dk_Md_makerOf_96 ?_
      refine rn_iload_n (pc := 99) 1 dk_Md_makerOf_99 rfl rfl ?_
      refine rn_iaload (pc := 100) rfl dk_Md_makerOf_100 (fun g9 => ?_)
      exact rn_iret rfl dk_Md_makerOf_101
    refine rn_tcase (pc := 16) 6 (6 : Int32) 102 dk_Md_makerOf_16 (by decide) (by decide) rfl (by decide) (fun c3_6 => ?_) (fun c3_6 => ?_)
    · refine rn_aload_n (pc := 102) 0 dk_Md_makerOf_102 rfl rfl rfl ?_
      refine rn_iload_n (pc := 103) 1 dk_Md_makerOf_103 rfl rfl ?_
      refine cl_Md_107 (pc := 104) (As := [.int p1]) (st := []) rfl (ct_Md_price X p1 q1.2) (Nat.le_trans (Nat.le_of_ble_eq_true rfl) hF0) rfl rfl (Nat.le_of_ble_eq_true rfl) dk_Md_makerOf_104 (fun q10 => ?_)
      exact rn_iret rfl dk_Md_makerOf_107
    refine rn_tdef (pc := 16) [(0 : Int32), (1 : Int32), (2 : Int32), (3 : Int32), (4 : Int32), (5 : Int32), (6 : Int32)] 108 dk_Md_makerOf_16 (by decide) (by decide) (List.forall_mem_cons.mpr ⟨c3_0, (List.forall_mem_cons.mpr ⟨c3_1, (List.forall_mem_cons.mpr ⟨c3_2, (List.forall_mem_cons.mpr ⟨c3_3, (List.forall_mem_cons.mpr ⟨c3_4, (List.forall_mem_cons.mpr ⟨c3_5, (List.forall_mem_cons.mpr ⟨c3_6, (fun _ h => absurd h List.not_mem_nil)⟩)⟩)⟩)⟩)⟩)⟩)⟩) (by decide) ?_
    refine rn_aload_n (pc := 108) 0 dk_Md_makerOf_108 rfl rfl rfl ?_
    refine rn_bipush (pc := 109) (-5 : Int32) dk_Md_makerOf_109 cn_b_m5 ?_
    refine cl_Md_97 (pc := 111) (As := [.int (-5 : Int32)]) (st := []) rfl (ct_Md_no X (-5 : Int32) q1.2) (Nat.le_trans (Nat.le_of_ble_eq_true rfl) hF0) rfl rfl (Nat.le_of_ble_eq_true rfl) dk_Md_makerOf_111 (fun q11 => ?_)
    exact rn_iret rfl dk_Md_makerOf_114
  · refine rn_aload_n (pc := 8) 0 dk_Md_makerOf_8 rfl rfl rfl ?_
    refine rn_bipush (pc := 9) (-5 : Int32) dk_Md_makerOf_9 cn_b_m5 ?_
    refine cl_Md_97 (pc := 11) (As := [.int (-5 : Int32)]) (st := []) rfl (ct_Md_no X (-5 : Int32) q1.2) (Nat.le_trans (Nat.le_of_ble_eq_true rfl) hF0) rfl rfl (Nat.le_of_ble_eq_true rfl) dk_Md_makerOf_11 (fun q12 => ?_)
    exact rn_iret rfl dk_Md_makerOf_14
theorem dk_Md_carries_0 : decode mi_Md_carries.2.1 0 = .ok (.iconst 0, 1) := by decide +kernel
theorem dk_Md_carries_1 : decode mi_Md_carries.2.1 1 = .ok (.istore 5, 2) := by decide +kernel
theorem dk_Md_carries_3 : decode mi_Md_carries.2.1 3 = .ok (.iload 5, 2) := by decide +kernel
theorem dk_Md_carries_5 : decode mi_Md_carries.2.1 5 = .ok (.bipush 8, 2) := by decide +kernel
theorem dk_Md_carries_7 : decode mi_Md_carries.2.1 7 = .ok (.if_icmp .ge 37, 3) := by decide +kernel
theorem dk_Md_carries_10 : decode mi_Md_carries.2.1 10 = .ok (.iload 4, 2) := by decide +kernel
theorem dk_Md_carries_12 : decode mi_Md_carries.2.1 12 = .ok (.ifCond .eq 16, 3) := by decide +kernel
theorem dk_Md_carries_15 : decode mi_Md_carries.2.1 15 = .ok (.aload_n 1, 1) := by decide +kernel
theorem dk_Md_carries_16 : decode mi_Md_carries.2.1 16 = .ok (.iload 5, 2) := by decide +kernel
theorem dk_Md_carries_18 : decode mi_Md_carries.2.1 18 = .ok (.aload_n 2, 1) := by decide +kernel
theorem dk_Md_carries_19 : decode mi_Md_carries.2.1 19 = .ok (.iload_n 3, 1) := by decide +kernel
theorem dk_Md_carries_20 : decode mi_Md_carries.2.1 20 = .ok (.iload 5, 2) := by decide +kernel
theorem dk_Md_carries_22 : decode mi_Md_carries.2.1 22 = .ok (.iadd, 1) := by decide +kernel
theorem dk_Md_carries_23 : decode mi_Md_carries.2.1 23 = .ok (.iaload, 1) := by decide +kernel
theorem dk_Md_carries_24 : decode mi_Md_carries.2.1 24 = .ok (.iastore, 1) := by decide +kernel
theorem dk_Md_carries_25 : decode mi_Md_carries.2.1 25 = .ok (.goto 13, 3) := by decide +kernel
theorem dk_Md_carries_28 : decode mi_Md_carries.2.1 28 = .ok (.aload_n 2, 1) := by decide +kernel
theorem dk_Md_carries_29 : decode mi_Md_carries.2.1 29 = .ok (.iload_n 3, 1) := by decide +kernel
theorem dk_Md_carries_30 : decode mi_Md_carries.2.1 30 = .ok (.iload 5, 2) := by decide +kernel
theorem dk_Md_carries_32 : decode mi_Md_carries.2.1 32 = .ok (.iadd, 1) := by decide +kernel
theorem dk_Md_carries_33 : decode mi_Md_carries.2.1 33 = .ok (.aload_n 1, 1) := by decide +kernel
theorem dk_Md_carries_34 : decode mi_Md_carries.2.1 34 = .ok (.iload 5, 2) := by decide +kernel
theorem dk_Md_carries_36 : decode mi_Md_carries.2.1 36 = .ok (.iaload, 1) := by decide +kernel
theorem dk_Md_carries_37 : decode mi_Md_carries.2.1 37 = .ok (.iastore, 1) := by decide +kernel
theorem dk_Md_carries_38 : decode mi_Md_carries.2.1 38 = .ok (.iinc 5 1, 3) := by decide +kernel
theorem dk_Md_carries_41 : decode mi_Md_carries.2.1 41 = .ok (.goto (-38), 3) := by decide +kernel
theorem dk_Md_carries_44 : decode mi_Md_carries.2.1 44 = .ok (.iload_n 3, 1) := by decide +kernel
theorem dk_Md_carries_45 : decode mi_Md_carries.2.1 45 = .ok (.bipush 8, 2) := by decide +kernel
theorem dk_Md_carries_47 : decode mi_Md_carries.2.1 47 = .ok (.iadd, 1) := by decide +kernel
theorem dk_Md_carries_48 : decode mi_Md_carries.2.1 48 = .ok (.ireturn, 1) := by decide +kernel
def Md_carries_l3 (o1 : Nat) (o2 : Nat) (k_44 : Int32 → nm_St → Option (Int32 × nm_St)) : Nat → Int32 → Int32 → Int32 → nm_St → Option (Int32 × nm_St)
  | 0, _, _, _, _ => none
  | n + 1, x3, x4, x5, σ =>
    (if (8 : Int32) ≤ x5 then
      k_44 x3 σ
    else
      (if x4 = 0 then
        (nm_g (nm_in x5 8) (
        (nm_g (nm_in (x3 + x5) 60) (
        (nm_let (nm_pI σ o2 (x3 + x5).toNatClampNeg (σ.1 o1 x5.toNatClampNeg)) fun s5 =>
        (Md_carries_l3 o1 o2 k_44 n) x3 x4 (x5 + (1 : Int32)) s5)))))
      else
        (nm_g (nm_in (x3 + x5) 60) (
        (nm_g (nm_in x5 8) (
        (nm_let (nm_pI σ o1 x5.toNatClampNeg (σ.1 o2 (x3 + x5).toNatClampNeg)) fun s8 =>
        (Md_carries_l3 o1 o2 k_44 n) x3 x4 (x5 + (1 : Int32)) s8)))))))
set_option maxRecDepth 100000 in
set_option maxHeartbeats 4000000 in
theorem r_Md_carries_l3 (X : nm_X) (F : nm_F) (hF0 : 0 ≤ nm_d F) (o1 : Nat) (ho1 : nm_sh o1 = nm_eA 8) (o2 : Nat) (ho2 : nm_sh o2 = nm_eA 60) (k_44 : Int32 → nm_St → Option (Int32 × nm_St)) (hk_44 : ∀ (x3 : Int32) (σ : nm_St), Rn X mi_Md_carries F (nm_Qf X F nm_wI) [(3, .int x3)] [] 44 σ (k_44 x3 σ)) : ∀ (n : Nat) (x3 : Int32) (x4 : Int32) (x5 : Int32) (σ : nm_St), Rn X mi_Md_carries F (nm_Qf X F nm_wI) [(1, .ref o1), (2, .ref o2), (3, .int x3), (4, .int x4), (5, .int x5)] [] 3 σ (Md_carries_l3 o1 o2 k_44 n x3 x4 x5 σ) := by
  intro n
  induction n with
  | zero =>
    intro x3 x4 x5 σ
    exact rn_none
  | succ n ih =>
    intro x3 x4 x5 σ
    unfold Md_carries_l3
    refine rn_iload (pc := 3) dk_Md_carries_3 rfl ?_
    refine rn_bipush (pc := 5) (8 : Int32) dk_Md_carries_5 cn_b_8 ?_
    refine rn_icmp_ge (pc := 7) 44 dk_Md_carries_7 (by decide) (fun c1 => ?_) (fun c1 => ?_)
    · exact rn_sub (by rfl) (hk_44 x3 σ)
    · refine rn_iload (pc := 10) dk_Md_carries_10 rfl ?_
      refine rn_if_eq (pc := 12) 28 dk_Md_carries_12 (by decide) (fun c2 => ?_) (fun c2 => ?_)
      · refine rn_aload_n (pc := 28) 2 dk_Md_carries_28 rfl rfl (nm_rok_sh ho2) ?_
        refine rn_iload_n (pc := 29) 3 dk_Md_carries_29 rfl rfl ?_
        refine rn_iload (pc := 30) dk_Md_carries_30 rfl ?_
        refine rn_iadd (pc := 32) dk_Md_carries_32 ?_
        refine rn_aload_n (pc := 33) 1 dk_Md_carries_33 rfl rfl (nm_rok_sh ho1) ?_
        refine rn_iload (pc := 34) dk_Md_carries_34 rfl ?_
        refine rn_iaload (pc := 36) ho1 dk_Md_carries_36 (fun g3 => ?_)
        refine rn_iastore (pc := 37) ho2 dk_Md_carries_37 (fun g4 => ?_)
        refine rn_lets (fun s5 => ?_)
        refine rn_iinc (pc := 38) (1 : Int32) dk_Md_carries_38 cn_i_1 rfl rfl rfl ?_
        refine rn_goto (pc := 41) 3 dk_Md_carries_41 (by decide) ?_
        exact rn_sub (by rfl) (ih x3 x4 (x5 + (1 : Int32)) s5)
      · refine rn_aload_n (pc := 15) 1 dk_Md_carries_15 rfl rfl (nm_rok_sh ho1) ?_
        refine rn_iload (pc := 16) dk_Md_carries_16 rfl ?_
        refine rn_aload_n (pc := 18) 2 dk_Md_carries_18 rfl rfl (nm_rok_sh ho2) ?_
        refine rn_iload_n (pc := 19) 3 dk_Md_carries_19 rfl rfl ?_
        refine rn_iload (pc := 20) dk_Md_carries_20 rfl ?_
        refine rn_iadd (pc := 22) dk_Md_carries_22 ?_
        refine rn_iaload (pc := 23) ho2 dk_Md_carries_23 (fun g6 => ?_)
        refine rn_iastore (pc := 24) ho1 dk_Md_carries_24 (fun g7 => ?_)
        refine rn_lets (fun s8 => ?_)
        refine rn_goto (pc := 25) 38 dk_Md_carries_25 (by decide) ?_
        refine rn_iinc (pc := 38) (1 : Int32) dk_Md_carries_38 cn_i_1 rfl rfl rfl ?_
        refine rn_goto (pc := 41) 3 dk_Md_carries_41 (by decide) ?_
        exact rn_sub (by rfl) (ih x3 x4 (x5 + (1 : Int32)) s8)
def Md_carries (o1 : Nat) (o2 : Nat) (p3 : Int32) (p4 : Int32) (σ : nm_St) : Option (Int32 × nm_St) :=
  Md_carries_l3 o1 o2 (fun (e10 : Int32) (s9 : nm_St) =>
    some ((e10 + (8 : Int32)), s9)) 400 p3 p4 (0 : Int32) σ
set_option maxRecDepth 100000 in
set_option maxHeartbeats 4000000 in
theorem ct_Md_carries (X : nm_X) (o1 : Nat) (ho1 : nm_sh o1 = nm_eA 8) (o2 : Nat) (ho2 : nm_sh o2 = nm_eA 60) (p3 : Int32) (p4 : Int32) (σ : nm_St) : Ct X mi_Md_carries 0 nm_wI [.ref 70, .ref o1, .ref o2, .int p3, .int p4] σ (Md_carries o1 o2 p3 p4 σ) := by
  refine Ct.of (by decide +kernel) rfl (fun F hF0 => ?_)
  unfold Md_carries
  refine rn_iconst (pc := 0) (0 : Int32) dk_Md_carries_0 cn_i_0 ?_
  refine rn_istore (pc := 1) dk_Md_carries_1 rfl rfl ?_
  refine rn_sub (by rfl) (r_Md_carries_l3 X F hF0 o1 ho1 o2 ho2 _ (fun e10 s9 => ?_) 400 p3 p4 (0 : Int32) σ)
  refine rn_iload_n (pc := 44) 3 dk_Md_carries_44 rfl rfl ?_
  refine rn_bipush (pc := 45) (8 : Int32) dk_Md_carries_45 cn_b_8 ?_
  refine rn_iadd (pc := 47) dk_Md_carries_47 ?_
  exact rn_iret rfl dk_Md_carries_48
theorem dk_Md_all_0 : decode mi_Md_all.2.1 0 = .ok (.aload_n 0, 1) := by decide +kernel
theorem dk_Md_all_1 : decode mi_Md_all.2.1 1 = .ok (.aload_n 0, 1) := by decide +kernel
theorem dk_Md_all_2 : decode mi_Md_all.2.1 2 = .ok (.getfield 26, 3) := by decide +kernel
theorem dk_Md_all_5 : decode mi_Md_all.2.1 5 = .ok (.aload_n 1, 1) := by decide +kernel
theorem dk_Md_all_6 : decode mi_Md_all.2.1 6 = .ok (.iconst 0, 1) := by decide +kernel
theorem dk_Md_all_7 : decode mi_Md_all.2.1 7 = .ok (.iload_n 2, 1) := by decide +kernel
theorem dk_Md_all_8 : decode mi_Md_all.2.1 8 = .ok (.invokevirtual 157, 3) := by decide +kernel
theorem dk_Md_all_11 : decode mi_Md_all.2.1 11 = .ok (.istore_n 3, 1) := by decide +kernel
theorem dk_Md_all_12 : decode mi_Md_all.2.1 12 = .ok (.aload_n 0, 1) := by decide +kernel
theorem dk_Md_all_13 : decode mi_Md_all.2.1 13 = .ok (.aload_n 0, 1) := by decide +kernel
theorem dk_Md_all_14 : decode mi_Md_all.2.1 14 = .ok (.getfield 29, 3) := by decide +kernel
theorem dk_Md_all_17 : decode mi_Md_all.2.1 17 = .ok (.aload_n 1, 1) := by decide +kernel
theorem dk_Md_all_18 : decode mi_Md_all.2.1 18 = .ok (.iload_n 3, 1) := by decide +kernel
theorem dk_Md_all_19 : decode mi_Md_all.2.1 19 = .ok (.iload_n 2, 1) := by decide +kernel
theorem dk_Md_all_20 : decode mi_Md_all.2.1 20 = .ok (.invokevirtual 157, 3) := by decide +kernel
theorem dk_Md_all_23 : decode mi_Md_all.2.1 23 = .ok (.istore_n 3, 1) := by decide +kernel
theorem dk_Md_all_24 : decode mi_Md_all.2.1 24 = .ok (.aload_n 0, 1) := by decide +kernel
theorem dk_Md_all_25 : decode mi_Md_all.2.1 25 = .ok (.aload_n 0, 1) := by decide +kernel
theorem dk_Md_all_26 : decode mi_Md_all.2.1 26 = .ok (.getfield 32, 3) := by decide +kernel
theorem dk_Md_all_29 : decode mi_Md_all.2.1 29 = .ok (.aload_n 1, 1) := by decide +kernel
theorem dk_Md_all_30 : decode mi_Md_all.2.1 30 = .ok (.iload_n 3, 1) := by decide +kernel
theorem dk_Md_all_31 : decode mi_Md_all.2.1 31 = .ok (.iload_n 2, 1) := by decide +kernel
theorem dk_Md_all_32 : decode mi_Md_all.2.1 32 = .ok (.invokevirtual 157, 3) := by decide +kernel
theorem dk_Md_all_35 : decode mi_Md_all.2.1 35 = .ok (.istore_n 3, 1) := by decide +kernel
theorem dk_Md_all_36 : decode mi_Md_all.2.1 36 = .ok (.aload_n 0, 1) := by decide +kernel
theorem dk_Md_all_37 : decode mi_Md_all.2.1 37 = .ok (.aload_n 0, 1) := by decide +kernel
theorem dk_Md_all_38 : decode mi_Md_all.2.1 38 = .ok (.getfield 35, 3) := by decide +kernel
theorem dk_Md_all_41 : decode mi_Md_all.2.1 41 = .ok (.aload_n 1, 1) := by decide +kernel
theorem dk_Md_all_42 : decode mi_Md_all.2.1 42 = .ok (.iload_n 3, 1) := by decide +kernel
theorem dk_Md_all_43 : decode mi_Md_all.2.1 43 = .ok (.iload_n 2, 1) := by decide +kernel
theorem dk_Md_all_44 : decode mi_Md_all.2.1 44 = .ok (.invokevirtual 157, 3) := by decide +kernel
theorem dk_Md_all_47 : decode mi_Md_all.2.1 47 = .ok (.istore_n 3, 1) := by decide +kernel
theorem dk_Md_all_48 : decode mi_Md_all.2.1 48 = .ok (.aload_n 0, 1) := by decide +kernel
theorem dk_Md_all_49 : decode mi_Md_all.2.1 49 = .ok (.aload_n 0, 1) := by decide +kernel
theorem dk_Md_all_50 : decode mi_Md_all.2.1 50 = .ok (.getfield 38, 3) := by decide +kernel
theorem dk_Md_all_53 : decode mi_Md_all.2.1 53 = .ok (.aload_n 1, 1) := by decide +kernel
theorem dk_Md_all_54 : decode mi_Md_all.2.1 54 = .ok (.iload_n 3, 1) := by decide +kernel
theorem dk_Md_all_55 : decode mi_Md_all.2.1 55 = .ok (.iload_n 2, 1) := by decide +kernel
theorem dk_Md_all_56 : decode mi_Md_all.2.1 56 = .ok (.invokevirtual 157, 3) := by decide +kernel
theorem dk_Md_all_59 : decode mi_Md_all.2.1 59 = .ok (.istore_n 3, 1) := by decide +kernel
theorem dk_Md_all_60 : decode mi_Md_all.2.1 60 = .ok (.aload_n 0, 1) := by decide +kernel
theorem dk_Md_all_61 : decode mi_Md_all.2.1 61 = .ok (.aload_n 0, 1) := by decide +kernel
theorem dk_Md_all_62 : decode mi_Md_all.2.1 62 = .ok (.getfield 41, 3) := by decide +kernel
theorem dk_Md_all_65 : decode mi_Md_all.2.1 65 = .ok (.aload_n 1, 1) := by decide +kernel
theorem dk_Md_all_66 : decode mi_Md_all.2.1 66 = .ok (.iload_n 3, 1) := by decide +kernel
theorem dk_Md_all_67 : decode mi_Md_all.2.1 67 = .ok (.iload_n 2, 1) := by decide +kernel
theorem dk_Md_all_68 : decode mi_Md_all.2.1 68 = .ok (.invokevirtual 157, 3) := by decide +kernel
theorem dk_Md_all_71 : decode mi_Md_all.2.1 71 = .ok (.istore_n 3, 1) := by decide +kernel
theorem dk_Md_all_72 : decode mi_Md_all.2.1 72 = .ok (.iload_n 2, 1) := by decide +kernel
theorem dk_Md_all_73 : decode mi_Md_all.2.1 73 = .ok (.ifCond .eq 58, 3) := by decide +kernel
theorem dk_Md_all_76 : decode mi_Md_all.2.1 76 = .ok (.aload_n 0, 1) := by decide +kernel
theorem dk_Md_all_77 : decode mi_Md_all.2.1 77 = .ok (.aload_n 1, 1) := by decide +kernel
theorem dk_Md_all_78 : decode mi_Md_all.2.1 78 = .ok (.iload_n 3, 1) := by decide +kernel
theorem dk_Md_all_79 : decode mi_Md_all.2.1 79 = .ok (.iaload, 1) := by decide +kernel
theorem dk_Md_all_80 : decode mi_Md_all.2.1 80 = .ok (.putfield 90, 3) := by decide +kernel
theorem dk_Md_all_83 : decode mi_Md_all.2.1 83 = .ok (.aload_n 0, 1) := by decide +kernel
theorem dk_Md_all_84 : decode mi_Md_all.2.1 84 = .ok (.aload_n 1, 1) := by decide +kernel
theorem dk_Md_all_85 : decode mi_Md_all.2.1 85 = .ok (.iload_n 3, 1) := by decide +kernel
theorem dk_Md_all_86 : decode mi_Md_all.2.1 86 = .ok (.iconst 1, 1) := by decide +kernel
theorem dk_Md_all_87 : decode mi_Md_all.2.1 87 = .ok (.iadd, 1) := by decide +kernel
theorem dk_Md_all_88 : decode mi_Md_all.2.1 88 = .ok (.iaload, 1) := by decide +kernel
theorem dk_Md_all_89 : decode mi_Md_all.2.1 89 = .ok (.putfield 7, 3) := by decide +kernel
theorem dk_Md_all_92 : decode mi_Md_all.2.1 92 = .ok (.aload_n 0, 1) := by decide +kernel
theorem dk_Md_all_93 : decode mi_Md_all.2.1 93 = .ok (.aload_n 1, 1) := by decide +kernel
theorem dk_Md_all_94 : decode mi_Md_all.2.1 94 = .ok (.iload_n 3, 1) := by decide +kernel
theorem dk_Md_all_95 : decode mi_Md_all.2.1 95 = .ok (.iconst 2, 1) := by decide +kernel
theorem dk_Md_all_96 : decode mi_Md_all.2.1 96 = .ok (.iadd, 1) := by decide +kernel
theorem dk_Md_all_97 : decode mi_Md_all.2.1 97 = .ok (.iaload, 1) := by decide +kernel
theorem dk_Md_all_98 : decode mi_Md_all.2.1 98 = .ok (.putfield 118, 3) := by decide +kernel
theorem dk_Md_all_101 : decode mi_Md_all.2.1 101 = .ok (.aload_n 0, 1) := by decide +kernel
theorem dk_Md_all_102 : decode mi_Md_all.2.1 102 = .ok (.aload_n 1, 1) := by decide +kernel
theorem dk_Md_all_103 : decode mi_Md_all.2.1 103 = .ok (.iload_n 3, 1) := by decide +kernel
theorem dk_Md_all_104 : decode mi_Md_all.2.1 104 = .ok (.iconst 3, 1) := by decide +kernel
theorem dk_Md_all_105 : decode mi_Md_all.2.1 105 = .ok (.iadd, 1) := by decide +kernel
theorem dk_Md_all_106 : decode mi_Md_all.2.1 106 = .ok (.iaload, 1) := by decide +kernel
theorem dk_Md_all_107 : decode mi_Md_all.2.1 107 = .ok (.putfield 13, 3) := by decide +kernel
theorem dk_Md_all_110 : decode mi_Md_all.2.1 110 = .ok (.aload_n 0, 1) := by decide +kernel
theorem dk_Md_all_111 : decode mi_Md_all.2.1 111 = .ok (.aload_n 1, 1) := by decide +kernel
theorem dk_Md_all_112 : decode mi_Md_all.2.1 112 = .ok (.iload_n 3, 1) := by decide +kernel
theorem dk_Md_all_113 : decode mi_Md_all.2.1 113 = .ok (.iconst 4, 1) := by decide +kernel
theorem dk_Md_all_114 : decode mi_Md_all.2.1 114 = .ok (.iadd, 1) := by decide +kernel
theorem dk_Md_all_115 : decode mi_Md_all.2.1 115 = .ok (.iaload, 1) := by decide +kernel
theorem dk_Md_all_116 : decode mi_Md_all.2.1 116 = .ok (.putfield 161, 3) := by decide +kernel
theorem dk_Md_all_119 : decode mi_Md_all.2.1 119 = .ok (.aload_n 0, 1) := by decide +kernel
theorem dk_Md_all_120 : decode mi_Md_all.2.1 120 = .ok (.aload_n 1, 1) := by decide +kernel
theorem dk_Md_all_121 : decode mi_Md_all.2.1 121 = .ok (.iload_n 3, 1) := by decide +kernel
theorem dk_Md_all_122 : decode mi_Md_all.2.1 122 = .ok (.iconst 5, 1) := by decide +kernel
theorem dk_Md_all_123 : decode mi_Md_all.2.1 123 = .ok (.iadd, 1) := by decide +kernel
theorem dk_Md_all_124 : decode mi_Md_all.2.1 124 = .ok (.iaload, 1) := by decide +kernel
theorem dk_Md_all_125 : decode mi_Md_all.2.1 125 = .ok (.putfield 16, 3) := by decide +kernel
theorem dk_Md_all_128 : decode mi_Md_all.2.1 128 = .ok (.goto 55, 3) := by decide +kernel
theorem dk_Md_all_131 : decode mi_Md_all.2.1 131 = .ok (.aload_n 1, 1) := by decide +kernel
theorem dk_Md_all_132 : decode mi_Md_all.2.1 132 = .ok (.iload_n 3, 1) := by decide +kernel
theorem dk_Md_all_133 : decode mi_Md_all.2.1 133 = .ok (.aload_n 0, 1) := by decide +kernel
theorem dk_Md_all_134 : decode mi_Md_all.2.1 134 = .ok (.getfield 90, 3) := by decide +kernel
theorem dk_Md_all_137 : decode mi_Md_all.2.1 137 = .ok (.iastore, 1) := by decide +kernel
theorem dk_Md_all_138 : decode mi_Md_all.2.1 138 = .ok (.aload_n 1, 1) := by decide +kernel
theorem dk_Md_all_139 : decode mi_Md_all.2.1 139 = .ok (.iload_n 3, 1) := by decide +kernel
theorem dk_Md_all_140 : decode mi_Md_all.2.1 140 = .ok (.iconst 1, 1) := by decide +kernel
theorem dk_Md_all_141 : decode mi_Md_all.2.1 141 = .ok (.iadd, 1) := by decide +kernel
theorem dk_Md_all_142 : decode mi_Md_all.2.1 142 = .ok (.aload_n 0, 1) := by decide +kernel
theorem dk_Md_all_143 : decode mi_Md_all.2.1 143 = .ok (.getfield 7, 3) := by decide +kernel
theorem dk_Md_all_146 : decode mi_Md_all.2.1 146 = .ok (.iastore, 1) := by decide +kernel
theorem dk_Md_all_147 : decode mi_Md_all.2.1 147 = .ok (.aload_n 1, 1) := by decide +kernel
theorem dk_Md_all_148 : decode mi_Md_all.2.1 148 = .ok (.iload_n 3, 1) := by decide +kernel
theorem dk_Md_all_149 : decode mi_Md_all.2.1 149 = .ok (.iconst 2, 1) := by decide +kernel
theorem dk_Md_all_150 : decode mi_Md_all.2.1 150 = .ok (.iadd, 1) := by decide +kernel
theorem dk_Md_all_151 : decode mi_Md_all.2.1 151 = .ok (.aload_n 0, 1) := by decide +kernel
theorem dk_Md_all_152 : decode mi_Md_all.2.1 152 = .ok (.getfield 118, 3) := by decide +kernel
theorem dk_Md_all_155 : decode mi_Md_all.2.1 155 = .ok (.iastore, 1) := by decide +kernel
theorem dk_Md_all_156 : decode mi_Md_all.2.1 156 = .ok (.aload_n 1, 1) := by decide +kernel
theorem dk_Md_all_157 : decode mi_Md_all.2.1 157 = .ok (.iload_n 3, 1) := by decide +kernel
theorem dk_Md_all_158 : decode mi_Md_all.2.1 158 = .ok (.iconst 3, 1) := by decide +kernel
theorem dk_Md_all_159 : decode mi_Md_all.2.1 159 = .ok (.iadd, 1) := by decide +kernel
theorem dk_Md_all_160 : decode mi_Md_all.2.1 160 = .ok (.aload_n 0, 1) := by decide +kernel
theorem dk_Md_all_161 : decode mi_Md_all.2.1 161 = .ok (.getfield 13, 3) := by decide +kernel
theorem dk_Md_all_164 : decode mi_Md_all.2.1 164 = .ok (.iastore, 1) := by decide +kernel
theorem dk_Md_all_165 : decode mi_Md_all.2.1 165 = .ok (.aload_n 1, 1) := by decide +kernel
theorem dk_Md_all_166 : decode mi_Md_all.2.1 166 = .ok (.iload_n 3, 1) := by decide +kernel
theorem dk_Md_all_167 : decode mi_Md_all.2.1 167 = .ok (.iconst 4, 1) := by decide +kernel
theorem dk_Md_all_168 : decode mi_Md_all.2.1 168 = .ok (.iadd, 1) := by decide +kernel
theorem dk_Md_all_169 : decode mi_Md_all.2.1 169 = .ok (.aload_n 0, 1) := by decide +kernel
theorem dk_Md_all_170 : decode mi_Md_all.2.1 170 = .ok (.getfield 161, 3) := by decide +kernel
theorem dk_Md_all_173 : decode mi_Md_all.2.1 173 = .ok (.iastore, 1) := by decide +kernel
theorem dk_Md_all_174 : decode mi_Md_all.2.1 174 = .ok (.aload_n 1, 1) := by decide +kernel
theorem dk_Md_all_175 : decode mi_Md_all.2.1 175 = .ok (.iload_n 3, 1) := by decide +kernel
theorem dk_Md_all_176 : decode mi_Md_all.2.1 176 = .ok (.iconst 5, 1) := by decide +kernel
theorem dk_Md_all_177 : decode mi_Md_all.2.1 177 = .ok (.iadd, 1) := by decide +kernel
theorem dk_Md_all_178 : decode mi_Md_all.2.1 178 = .ok (.aload_n 0, 1) := by decide +kernel
theorem dk_Md_all_179 : decode mi_Md_all.2.1 179 = .ok (.getfield 16, 3) := by decide +kernel
theorem dk_Md_all_182 : decode mi_Md_all.2.1 182 = .ok (.iastore, 1) := by decide +kernel
theorem dk_Md_all_183 : decode mi_Md_all.2.1 183 = .ok (.return_, 1) := by decide +kernel
def Md_all (o1 : Nat) (p2 : Int32) (σ : nm_St) : Option (Unit × nm_St) :=
  ((Md_carries 72 o1 (0 : Int32) p2 σ).bind fun q1 =>
  ((Md_carries 73 o1 q1.1 p2 q1.2).bind fun q2 =>
  ((Md_carries 74 o1 q2.1 p2 q2.2).bind fun q3 =>
  ((Md_carries 75 o1 q3.1 p2 q3.2).bind fun q4 =>
  ((Md_carries 76 o1 q4.1 p2 q4.2).bind fun q5 =>
  ((Md_carries 77 o1 q5.1 p2 q5.2).bind fun q6 =>
  (if p2 = 0 then
    (nm_g (nm_in q6.1 60) (
    (nm_let (nm_pI q6.2 o1 q6.1.toNatClampNeg (q6.2.1 70 0)) fun s9 =>
    (nm_g (nm_in (q6.1 + (1 : Int32)) 60) (
    (nm_let (nm_pI s9 o1 (q6.1 + (1 : Int32)).toNatClampNeg (s9.1 70 1)) fun s11 =>
    (nm_g (nm_in (q6.1 + (2 : Int32)) 60) (
    (nm_let (nm_pI s11 o1 (q6.1 + (2 : Int32)).toNatClampNeg (s11.1 70 2)) fun s13 =>
    (nm_g (nm_in (q6.1 + (3 : Int32)) 60) (
    (nm_let (nm_pI s13 o1 (q6.1 + (3 : Int32)).toNatClampNeg (s13.1 70 3)) fun s15 =>
    (nm_g (nm_in (q6.1 + (4 : Int32)) 60) (
    (nm_let (nm_pI s15 o1 (q6.1 + (4 : Int32)).toNatClampNeg (s15.1 70 4)) fun s17 =>
    (nm_g (nm_in (q6.1 + (5 : Int32)) 60) (
    (nm_let (nm_pI s17 o1 (q6.1 + (5 : Int32)).toNatClampNeg (s17.1 70 5)) fun s19 =>
    some ((), s19)))))))))))))))))))
  else
    (nm_g (nm_in q6.1 60) (
    (nm_let (nm_pI q6.2 70 0 (q6.2.1 o1 q6.1.toNatClampNeg)) fun s21 =>
    (nm_g (nm_in (q6.1 + (1 : Int32)) 60) (
    (nm_let (nm_pI s21 70 1 (s21.1 o1 (q6.1 + (1 : Int32)).toNatClampNeg)) fun s23 =>
    (nm_g (nm_in (q6.1 + (2 : Int32)) 60) (
    (nm_let (nm_pI s23 70 2 (s23.1 o1 (q6.1 + (2 : Int32)).toNatClampNeg)) fun s25 =>
    (nm_g (nm_in (q6.1 + (3 : Int32)) 60) (
    (nm_let (nm_pI s25 70 3 (s25.1 o1 (q6.1 + (3 : Int32)).toNatClampNeg)) fun s27 =>
    (nm_g (nm_in (q6.1 + (4 : Int32)) 60) (
    (nm_let (nm_pI s27 70 4 (s27.1 o1 (q6.1 + (4 : Int32)).toNatClampNeg)) fun s29 =>
    (nm_g (nm_in (q6.1 + (5 : Int32)) 60) (
    (nm_let (nm_pI s29 70 5 (s29.1 o1 (q6.1 + (5 : Int32)).toNatClampNeg)) fun s31 =>
    some ((), s31))))))))))))))))))))))))))
set_option maxRecDepth 100000 in
set_option maxHeartbeats 4000000 in
theorem ct_Md_all (X : nm_X) (o1 : Nat) (ho1 : nm_sh o1 = nm_eA 60) (p2 : Int32) (σ : nm_St) : Ct X mi_Md_all 1 nm_wV [.ref 70, .ref o1, .int p2] σ (Md_all o1 p2 σ) := by
  refine Ct.of (by decide +kernel) rfl (fun F hF0 => ?_)
  unfold Md_all
  refine rn_aload_n (pc := 0) 0 dk_Md_all_0 rfl rfl rfl ?_
  refine rn_aload_n (pc := 1) 0 dk_Md_all_1 rfl rfl rfl ?_
  refine gf_Md_26 (pc := 2) rfl dk_Md_all_2 ?_
  refine rn_aload_n (pc := 5) 1 dk_Md_all_5 rfl rfl (nm_rok_sh ho1) ?_
  refine rn_iconst (pc := 6) (0 : Int32) dk_Md_all_6 cn_i_0 ?_
  refine rn_iload_n (pc := 7) 2 dk_Md_all_7 rfl rfl ?_
  refine cl_Md_157 (pc := 8) (As := [.ref 72, .ref o1, .int (0 : Int32), .int p2]) (st := []) rfl (ct_Md_carries X 72 rfl o1 ho1 (0 : Int32) p2 σ) (Nat.le_trans (Nat.le_of_ble_eq_true rfl) hF0) rfl rfl (Nat.le_of_ble_eq_true rfl) dk_Md_all_8 (fun q1 => ?_)
  refine rn_istore_n (pc := 11) 3 dk_Md_all_11 rfl rfl rfl ?_
  refine rn_aload_n (pc := 12) 0 dk_Md_all_12 rfl rfl rfl ?_
  refine rn_aload_n (pc := 13) 0 dk_Md_all_13 rfl rfl rfl ?_
  refine gf_Md_29 (pc := 14) rfl dk_Md_all_14 ?_
  refine rn_aload_n (pc := 17) 1 dk_Md_all_17 rfl rfl (nm_rok_sh ho1) ?_
  refine rn_iload_n (pc := 18) 3 dk_Md_all_18 rfl rfl ?_
  refine rn_iload_n (pc := 19) 2 dk_Md_all_19 rfl rfl ?_
  refine cl_Md_157 (pc := 20) (As := [.ref 73, .ref o1, .int q1.1, .int p2]) (st := []) rfl (ct_Md_carries X 73 rfl o1 ho1 q1.1 p2 q1.2) (Nat.le_trans (Nat.le_of_ble_eq_true rfl) hF0) rfl rfl (Nat.le_of_ble_eq_true rfl) dk_Md_all_20 (fun q2 => ?_)
  refine rn_istore_n (pc := 23) 3 dk_Md_all_23 rfl rfl rfl ?_
  refine rn_aload_n (pc := 24) 0 dk_Md_all_24 rfl rfl rfl ?_
  refine rn_aload_n (pc := 25) 0 dk_Md_all_25 rfl rfl rfl ?_
  refine gf_Md_32 (pc := 26) rfl dk_Md_all_26 ?_
  refine rn_aload_n (pc := 29) 1 dk_Md_all_29 rfl rfl (nm_rok_sh ho1) ?_
  refine rn_iload_n (pc := 30) 3 dk_Md_all_30 rfl rfl ?_
  refine rn_iload_n (pc := 31) 2 dk_Md_all_31 rfl rfl ?_
  refine cl_Md_157 (pc := 32) (As := [.ref 74, .ref o1, .int q2.1, .int p2]) (st := []) rfl (ct_Md_carries X 74 rfl o1 ho1 q2.1 p2 q2.2) (Nat.le_trans (Nat.le_of_ble_eq_true rfl) hF0) rfl rfl (Nat.le_of_ble_eq_true rfl) dk_Md_all_32 (fun q3 => ?_)
  refine rn_istore_n (pc := 35) 3 dk_Md_all_35 rfl rfl rfl ?_
  refine rn_aload_n (pc := 36) 0 dk_Md_all_36 rfl rfl rfl ?_
  refine rn_aload_n (pc := 37) 0 dk_Md_all_37 rfl rfl rfl ?_
  refine gf_Md_35 (pc := 38) rfl dk_Md_all_38 ?_
  refine rn_aload_n (pc := 41) 1 dk_Md_all_41 rfl rfl (nm_rok_sh ho1) ?_
  refine rn_iload_n (pc := 42) 3 dk_Md_all_42 rfl rfl ?_
  refine rn_iload_n (pc := 43) 2 dk_Md_all_43 rfl rfl ?_
  refine cl_Md_157 (pc := 44) (As := [.ref 75, .ref o1, .int q3.1, .int p2]) (st := []) rfl (ct_Md_carries X 75 rfl o1 ho1 q3.1 p2 q3.2) (Nat.le_trans (Nat.le_of_ble_eq_true rfl) hF0) rfl rfl (Nat.le_of_ble_eq_true rfl) dk_Md_all_44 (fun q4 => ?_)
  refine rn_istore_n (pc := 47) 3 dk_Md_all_47 rfl rfl rfl ?_
  refine rn_aload_n (pc := 48) 0 dk_Md_all_48 rfl rfl rfl ?_
  refine rn_aload_n (pc := 49) 0 dk_Md_all_49 rfl rfl rfl ?_
  refine gf_Md_38 (pc := 50) rfl dk_Md_all_50 ?_
  refine rn_aload_n (pc := 53) 1 dk_Md_all_53 rfl rfl (nm_rok_sh ho1) ?_
  refine rn_iload_n (pc := 54) 3 dk_Md_all_54 rfl rfl ?_
  refine rn_iload_n (pc := 55) 2 dk_Md_all_55 rfl rfl ?_
  refine cl_Md_157 (pc := 56) (As := [.ref 76, .ref o1, .int q4.1, .int p2]) (st := []) rfl (ct_Md_carries X 76 rfl o1 ho1 q4.1 p2 q4.2) (Nat.le_trans (Nat.le_of_ble_eq_true rfl) hF0) rfl rfl (Nat.le_of_ble_eq_true rfl) dk_Md_all_56 (fun q5 => ?_)
  refine rn_istore_n (pc := 59) 3 dk_Md_all_59 rfl rfl rfl ?_
  refine rn_aload_n (pc := 60) 0 dk_Md_all_60 rfl rfl rfl ?_
  refine rn_aload_n (pc := 61) 0 dk_Md_all_61 rfl rfl rfl ?_
  refine gf_Md_41 (pc := 62) rfl dk_Md_all_62 ?_
  refine rn_aload_n (pc := 65) 1 dk_Md_all_65 rfl rfl (nm_rok_sh ho1) ?_
  refine rn_iload_n (pc := 66) 3 dk_Md_all_66 rfl rfl ?_
  refine rn_iload_n (pc := 67) 2 dk_Md_all_67 rfl rfl ?_
  refine cl_Md_157 (pc := 68) (As := [.ref 77, .ref o1, .int q5.1, .int p2]) (st := []) rfl (ct_Md_carries X 77 rfl o1 ho1 q5.1 p2 q5.2) (Nat.le_trans (Nat.le_of_ble_eq_true rfl) hF0) rfl rfl (Nat.le_of_ble_eq_true rfl) dk_Md_all_68 (fun q6 => ?_)
  refine rn_istore_n (pc := 71) 3 dk_Md_all_71 rfl rfl rfl ?_
  refine rn_iload_n (pc := 72) 2 dk_Md_all_72 rfl rfl ?_
  refine rn_if_eq (pc := 73) 131 dk_Md_all_73 (by decide) (fun c7 => ?_) (fun c7 => ?_)
  · refine rn_aload_n (pc := 131) 1 dk_Md_all_131 rfl rfl (nm_rok_sh ho1) ?_
    refine rn_iload_n (pc := 132) 3 dk_Md_all_132 rfl rfl ?_
    refine rn_aload_n (pc := 133) 0 dk_Md_all_133 rfl rfl rfl ?_
    refine gf_Md_90 (pc := 134) rfl dk_Md_all_134 ?_
    refine rn_iastore (pc := 137) ho1 dk_Md_all_137 (fun g8 => ?_)
    refine rn_lets (fun s9 => ?_)
    refine rn_aload_n (pc := 138) 1 dk_Md_all_138 rfl rfl (nm_rok_sh ho1) ?_
    refine rn_iload_n (pc := 139) 3 dk_Md_all_139 rfl rfl ?_
    refine rn_iconst (pc := 140) (1 : Int32) dk_Md_all_140 cn_i_1 ?_
    refine rn_iadd (pc := 141) dk_Md_all_141 ?_
    refine rn_aload_n (pc := 142) 0 dk_Md_all_142 rfl rfl rfl ?_
    refine gf_Md_7 (pc := 143) rfl dk_Md_all_143 ?_
    refine rn_iastore (pc := 146) ho1 dk_Md_all_146 (fun g10 => ?_)
    refine rn_lets (fun s11 => ?_)
    refine rn_aload_n (pc := 147) 1 dk_Md_all_147 rfl rfl (nm_rok_sh ho1) ?_
    refine rn_iload_n (pc := 148) 3 dk_Md_all_148 rfl rfl ?_
    refine rn_iconst (pc := 149) (2 : Int32) dk_Md_all_149 cn_i_2 ?_
    refine rn_iadd (pc := 150) dk_Md_all_150 ?_
    refine rn_aload_n (pc := 151) 0 dk_Md_all_151 rfl rfl rfl ?_
    refine gf_Md_118 (pc := 152) rfl dk_Md_all_152 ?_
    refine rn_iastore (pc := 155) ho1 dk_Md_all_155 (fun g12 => ?_)
    refine rn_lets (fun s13 => ?_)
    refine rn_aload_n (pc := 156) 1 dk_Md_all_156 rfl rfl (nm_rok_sh ho1) ?_
    refine rn_iload_n (pc := 157) 3 dk_Md_all_157 rfl rfl ?_
    refine rn_iconst (pc := 158) (3 : Int32) dk_Md_all_158 cn_i_3 ?_
    refine rn_iadd (pc := 159) dk_Md_all_159 ?_
    refine rn_aload_n (pc := 160) 0 dk_Md_all_160 rfl rfl rfl ?_
    refine gf_Md_13 (pc := 161) rfl dk_Md_all_161 ?_
    refine rn_iastore (pc := 164) ho1 dk_Md_all_164 (fun g14 => ?_)
    refine rn_lets (fun s15 => ?_)
    refine rn_aload_n (pc := 165) 1 dk_Md_all_165 rfl rfl (nm_rok_sh ho1) ?_
    refine rn_iload_n (pc := 166) 3 dk_Md_all_166 rfl rfl ?_
    refine rn_iconst (pc := 167) (4 : Int32) dk_Md_all_167 cn_i_4 ?_
    refine rn_iadd (pc := 168) dk_Md_all_168 ?_
    refine rn_aload_n (pc := 169) 0 dk_Md_all_169 rfl rfl rfl ?_
    refine gf_Md_161 (pc := 170) rfl dk_Md_all_170 ?_
    refine rn_iastore (pc := 173) ho1 dk_Md_all_173 (fun g16 => ?_)
    refine rn_lets (fun s17 => ?_)
    refine rn_aload_n (pc := 174) 1 dk_Md_all_174 rfl rfl (nm_rok_sh ho1) ?_
    refine rn_iload_n (pc := 175) 3 dk_Md_all_175 rfl rfl ?_
    refine rn_iconst (pc := 176) (5 : Int32) dk_Md_all_176 cn_i_5 ?_
    refine rn_iadd (pc := 177) dk_Md_all_177 ?_
    refine rn_aload_n (pc := 178) 0 dk_Md_all_178 rfl rfl rfl ?_
    refine gf_Md_16 (pc := 179) rfl dk_Md_all_179 ?_
    refine rn_iastore (pc := 182) ho1 dk_Md_all_182 (fun g18 => ?_)
    refine rn_lets (fun s19 => ?_)
    exact rn_vret rfl dk_Md_all_183
  · refine rn_aload_n (pc := 76) 0 dk_Md_all_76 rfl rfl rfl ?_
    refine rn_aload_n (pc := 77) 1 dk_Md_all_77 rfl rfl (nm_rok_sh ho1) ?_
    refine rn_iload_n (pc := 78) 3 dk_Md_all_78 rfl rfl ?_
    refine rn_iaload (pc := 79) ho1 dk_Md_all_79 (fun g20 => ?_)
    refine pf_Md_90 (pc := 80) rfl dk_Md_all_80 ?_
    refine rn_lets (fun s21 => ?_)
    refine rn_aload_n (pc := 83) 0 dk_Md_all_83 rfl rfl rfl ?_
    refine rn_aload_n (pc := 84) 1 dk_Md_all_84 rfl rfl (nm_rok_sh ho1) ?_
    refine rn_iload_n (pc := 85) 3 dk_Md_all_85 rfl rfl ?_
    refine rn_iconst (pc := 86) (1 : Int32) dk_Md_all_86 cn_i_1 ?_
    refine rn_iadd (pc := 87) dk_Md_all_87 ?_
    refine rn_iaload (pc := 88) ho1 dk_Md_all_88 (fun g22 => ?_)
    refine pf_Md_7 (pc := 89) rfl dk_Md_all_89 ?_
    refine rn_lets (fun s23 => ?_)
    refine rn_aload_n (pc := 92) 0 dk_Md_all_92 rfl rfl rfl ?_
    refine rn_aload_n (pc := 93) 1 dk_Md_all_93 rfl rfl (nm_rok_sh ho1) ?_
    refine rn_iload_n (pc := 94) 3 dk_Md_all_94 rfl rfl ?_
    refine rn_iconst (pc := 95) (2 : Int32) dk_Md_all_95 cn_i_2 ?_
    refine rn_iadd (pc := 96) dk_Md_all_96 ?_
    refine rn_iaload (pc := 97) ho1 dk_Md_all_97 (fun g24 => ?_)
    refine pf_Md_118 (pc := 98) rfl dk_Md_all_98 ?_
    refine rn_lets (fun s25 => ?_)
    refine rn_aload_n (pc := 101) 0 dk_Md_all_101 rfl rfl rfl ?_
    refine rn_aload_n (pc := 102) 1 dk_Md_all_102 rfl rfl (nm_rok_sh ho1) ?_
    refine rn_iload_n (pc := 103) 3 dk_Md_all_103 rfl rfl ?_
    refine rn_iconst (pc := 104) (3 : Int32) dk_Md_all_104 cn_i_3 ?_
    refine rn_iadd (pc := 105) dk_Md_all_105 ?_
    refine rn_iaload (pc := 106) ho1 dk_Md_all_106 (fun g26 => ?_)
    refine pf_Md_13 (pc := 107) rfl dk_Md_all_107 ?_
    refine rn_lets (fun s27 => ?_)
    refine rn_aload_n (pc := 110) 0 dk_Md_all_110 rfl rfl rfl ?_
    refine rn_aload_n (pc := 111) 1 dk_Md_all_111 rfl rfl (nm_rok_sh ho1) ?_
    refine rn_iload_n (pc := 112) 3 dk_Md_all_112 rfl rfl ?_
    refine rn_iconst (pc := 113) (4 : Int32) dk_Md_all_113 cn_i_4 ?_
    refine rn_iadd (pc := 114) dk_Md_all_114 ?_
    refine rn_iaload (pc := 115) ho1 dk_Md_all_115 (fun g28 => ?_)
    refine pf_Md_161 (pc := 116) rfl dk_Md_all_116 ?_
    refine rn_lets (fun s29 => ?_)
    refine rn_aload_n (pc := 119) 0 dk_Md_all_119 rfl rfl rfl ?_
    refine rn_aload_n (pc := 120) 1 dk_Md_all_120 rfl rfl (nm_rok_sh ho1) ?_
    refine rn_iload_n (pc := 121) 3 dk_Md_all_121 rfl rfl ?_
    refine rn_iconst (pc := 122) (5 : Int32) dk_Md_all_122 cn_i_5 ?_
    refine rn_iadd (pc := 123) dk_Md_all_123 ?_
    refine rn_iaload (pc := 124) ho1 dk_Md_all_124 (fun g30 => ?_)
    refine pf_Md_16 (pc := 125) rfl dk_Md_all_125 ?_
    refine rn_lets (fun s31 => ?_)
    refine rn_goto (pc := 128) 183 dk_Md_all_128 (by decide) ?_
    exact rn_vret rfl dk_Md_all_183
theorem dk_Md_isSo_0 : decode mi_Md_isSo.2.1 0 = .ok (.iload_n 1, 1) := by decide +kernel
theorem dk_Md_isSo_1 : decode mi_Md_isSo.2.1 1 = .ok (.tableswitch 243 0 7 #[47, 73, 107, 135, 169, 243, 184, 213], 47) := by decide +kernel
theorem dk_Md_isSo_48 : decode mi_Md_isSo.2.1 48 = .ok (.aload_n 0, 1) := by decide +kernel
theorem dk_Md_isSo_49 : decode mi_Md_isSo.2.1 49 = .ok (.getfield 133, 3) := by decide +kernel
theorem dk_Md_isSo_52 : decode mi_Md_isSo.2.1 52 = .ok (.aload_n 0, 1) := by decide +kernel
theorem dk_Md_isSo_53 : decode mi_Md_isSo.2.1 53 = .ok (.getfield 7, 3) := by decide +kernel
theorem dk_Md_isSo_56 : decode mi_Md_isSo.2.1 56 = .ok (.if_icmp .lt 16, 3) := by decide +kernel
theorem dk_Md_isSo_59 : decode mi_Md_isSo.2.1 59 = .ok (.aload_n 0, 1) := by decide +kernel
theorem dk_Md_isSo_60 : decode mi_Md_isSo.2.1 60 = .ok (.getfield 133, 3) := by decide +kernel
theorem dk_Md_isSo_63 : decode mi_Md_isSo.2.1 63 = .ok (.bipush 8, 2) := by decide +kernel
theorem dk_Md_isSo_65 : decode mi_Md_isSo.2.1 65 = .ok (.if_icmp .gt 7, 3) := by decide +kernel
theorem dk_Md_isSo_68 : decode mi_Md_isSo.2.1 68 = .ok (.iconst 1, 1) := by decide +kernel
theorem dk_Md_isSo_69 : decode mi_Md_isSo.2.1 69 = .ok (.goto 4, 3) := by decide +kernel
theorem dk_Md_isSo_72 : decode mi_Md_isSo.2.1 72 = .ok (.iconst 0, 1) := by decide +kernel
theorem dk_Md_isSo_73 : decode mi_Md_isSo.2.1 73 = .ok (.ireturn, 1) := by decide +kernel
theorem dk_Md_isSo_74 : decode mi_Md_isSo.2.1 74 = .ok (.aload_n 0, 1) := by decide +kernel
theorem dk_Md_isSo_75 : decode mi_Md_isSo.2.1 75 = .ok (.getfield 133, 3) := by decide +kernel
theorem dk_Md_isSo_78 : decode mi_Md_isSo.2.1 78 = .ok (.iload_n 2, 1) := by decide +kernel
theorem dk_Md_isSo_79 : decode mi_Md_isSo.2.1 79 = .ok (.ifCond .ne 8, 3) := by decide +kernel
theorem dk_Md_isSo_82 : decode mi_Md_isSo.2.1 82 = .ok (.bipush 6, 2) := by decide +kernel
theorem dk_Md_isSo_84 : decode mi_Md_isSo.2.1 84 = .ok (.goto 15, 3) := by decide +kernel
theorem dk_Md_isSo_87 : decode mi_Md_isSo.2.1 87 = .ok (.iload_n 2, 1) := by decide +kernel
theorem dk_Md_isSo_88 : decode mi_Md_isSo.2.1 88 = .ok (.iconst 1, 1) := by decide +kernel
theorem dk_Md_isSo_89 : decode mi_Md_isSo.2.1 89 = .ok (.if_icmp .ne 8, 3) := by decide +kernel
theorem dk_Md_isSo_92 : decode mi_Md_isSo.2.1 92 = .ok (.bipush 9, 2) := by decide +kernel
theorem dk_Md_isSo_94 : decode mi_Md_isSo.2.1 94 = .ok (.goto 5, 3) := by decide +kernel
theorem dk_Md_isSo_97 : decode mi_Md_isSo.2.1 97 = .ok (.bipush 99, 2) := by decide +kernel
theorem dk_Md_isSo_99 : decode mi_Md_isSo.2.1 99 = .ok (.if_icmp .gt 7, 3) := by decide +kernel
theorem dk_Md_isSo_102 : decode mi_Md_isSo.2.1 102 = .ok (.iconst 1, 1) := by decide +kernel
theorem dk_Md_isSo_103 : decode mi_Md_isSo.2.1 103 = .ok (.goto 4, 3) := by decide +kernel
theorem dk_Md_isSo_106 : decode mi_Md_isSo.2.1 106 = .ok (.iconst 0, 1) := by decide +kernel
theorem dk_Md_isSo_107 : decode mi_Md_isSo.2.1 107 = .ok (.ireturn, 1) := by decide +kernel
theorem dk_Md_isSo_108 : decode mi_Md_isSo.2.1 108 = .ok (.aload_n 0, 1) := by decide +kernel
theorem dk_Md_isSo_109 : decode mi_Md_isSo.2.1 109 = .ok (.getfield 133, 3) := by decide +kernel
theorem dk_Md_isSo_112 : decode mi_Md_isSo.2.1 112 = .ok (.iload_n 2, 1) := by decide +kernel
theorem dk_Md_isSo_113 : decode mi_Md_isSo.2.1 113 = .ok (.ifCond .ne 10, 3) := by decide +kernel
theorem dk_Md_isSo_116 : decode mi_Md_isSo.2.1 116 = .ok (.aload_n 0, 1) := by decide +kernel
theorem dk_Md_isSo_117 : decode mi_Md_isSo.2.1 117 = .ok (.getfield 90, 3) := by decide +kernel
theorem dk_Md_isSo_120 : decode mi_Md_isSo.2.1 120 = .ok (.goto 7, 3) := by decide +kernel
theorem dk_Md_isSo_123 : decode mi_Md_isSo.2.1 123 = .ok (.aload_n 0, 1) := by decide +kernel
theorem dk_Md_isSo_124 : decode mi_Md_isSo.2.1 124 = .ok (.getfield 7, 3) := by decide +kernel
theorem dk_Md_isSo_127 : decode mi_Md_isSo.2.1 127 = .ok (.if_icmp .ge 7, 3) := by decide +kernel
theorem dk_Md_isSo_130 : decode mi_Md_isSo.2.1 130 = .ok (.iconst 1, 1) := by decide +kernel
theorem dk_Md_isSo_131 : decode mi_Md_isSo.2.1 131 = .ok (.goto 4, 3) := by decide +kernel
theorem dk_Md_isSo_134 : decode mi_Md_isSo.2.1 134 = .ok (.iconst 0, 1) := by decide +kernel
theorem dk_Md_isSo_135 : decode mi_Md_isSo.2.1 135 = .ok (.ireturn, 1) := by decide +kernel
theorem dk_Md_isSo_136 : decode mi_Md_isSo.2.1 136 = .ok (.aload_n 0, 1) := by decide +kernel
theorem dk_Md_isSo_137 : decode mi_Md_isSo.2.1 137 = .ok (.getfield 133, 3) := by decide +kernel
theorem dk_Md_isSo_140 : decode mi_Md_isSo.2.1 140 = .ok (.aload_n 0, 1) := by decide +kernel
theorem dk_Md_isSo_141 : decode mi_Md_isSo.2.1 141 = .ok (.getfield 90, 3) := by decide +kernel
theorem dk_Md_isSo_144 : decode mi_Md_isSo.2.1 144 = .ok (.if_icmp .ge 24, 3) := by decide +kernel
theorem dk_Md_isSo_147 : decode mi_Md_isSo.2.1 147 = .ok (.iload_n 2, 1) := by decide +kernel
theorem dk_Md_isSo_148 : decode mi_Md_isSo.2.1 148 = .ok (.ifCond .eq 16, 3) := by decide +kernel
theorem dk_Md_isSo_151 : decode mi_Md_isSo.2.1 151 = .ok (.aload_n 0, 1) := by decide +kernel
theorem dk_Md_isSo_152 : decode mi_Md_isSo.2.1 152 = .ok (.getfield 133, 3) := by decide +kernel
theorem dk_Md_isSo_155 : decode mi_Md_isSo.2.1 155 = .ok (.aload_n 0, 1) := by decide +kernel
theorem dk_Md_isSo_156 : decode mi_Md_isSo.2.1 156 = .ok (.getfield 69, 3) := by decide +kernel
theorem dk_Md_isSo_159 : decode mi_Md_isSo.2.1 159 = .ok (.iconst 0, 1) := by decide +kernel
theorem dk_Md_isSo_160 : decode mi_Md_isSo.2.1 160 = .ok (.iaload, 1) := by decide +kernel
theorem dk_Md_isSo_161 : decode mi_Md_isSo.2.1 161 = .ok (.if_icmp .eq 7, 3) := by decide +kernel
theorem dk_Md_isSo_164 : decode mi_Md_isSo.2.1 164 = .ok (.iconst 1, 1) := by decide +kernel
theorem dk_Md_isSo_165 : decode mi_Md_isSo.2.1 165 = .ok (.goto 4, 3) := by decide +kernel
theorem dk_Md_isSo_168 : decode mi_Md_isSo.2.1 168 = .ok (.iconst 0, 1) := by decide +kernel
theorem dk_Md_isSo_169 : decode mi_Md_isSo.2.1 169 = .ok (.ireturn, 1) := by decide +kernel
theorem dk_Md_isSo_170 : decode mi_Md_isSo.2.1 170 = .ok (.aload_n 0, 1) := by decide +kernel
theorem dk_Md_isSo_171 : decode mi_Md_isSo.2.1 171 = .ok (.getfield 133, 3) := by decide +kernel
theorem dk_Md_isSo_174 : decode mi_Md_isSo.2.1 174 = .ok (.bipush 99, 2) := by decide +kernel
theorem dk_Md_isSo_176 : decode mi_Md_isSo.2.1 176 = .ok (.if_icmp .gt 7, 3) := by decide +kernel
theorem dk_Md_isSo_179 : decode mi_Md_isSo.2.1 179 = .ok (.iconst 1, 1) := by decide +kernel
theorem dk_Md_isSo_180 : decode mi_Md_isSo.2.1 180 = .ok (.goto 4, 3) := by decide +kernel
theorem dk_Md_isSo_183 : decode mi_Md_isSo.2.1 183 = .ok (.iconst 0, 1) := by decide +kernel
theorem dk_Md_isSo_184 : decode mi_Md_isSo.2.1 184 = .ok (.ireturn, 1) := by decide +kernel
theorem dk_Md_isSo_185 : decode mi_Md_isSo.2.1 185 = .ok (.aload_n 0, 1) := by decide +kernel
theorem dk_Md_isSo_186 : decode mi_Md_isSo.2.1 186 = .ok (.getfield 133, 3) := by decide +kernel
theorem dk_Md_isSo_189 : decode mi_Md_isSo.2.1 189 = .ok (.aload_n 0, 1) := by decide +kernel
theorem dk_Md_isSo_190 : decode mi_Md_isSo.2.1 190 = .ok (.getfield 90, 3) := by decide +kernel
theorem dk_Md_isSo_193 : decode mi_Md_isSo.2.1 193 = .ok (.if_icmp .ge 19, 3) := by decide +kernel
theorem dk_Md_isSo_196 : decode mi_Md_isSo.2.1 196 = .ok (.aload_n 0, 1) := by decide +kernel
theorem dk_Md_isSo_197 : decode mi_Md_isSo.2.1 197 = .ok (.getfield 41, 3) := by decide +kernel
theorem dk_Md_isSo_200 : decode mi_Md_isSo.2.1 200 = .ok (.aload_n 0, 1) := by decide +kernel
theorem dk_Md_isSo_201 : decode mi_Md_isSo.2.1 201 = .ok (.getfield 133, 3) := by decide +kernel
theorem dk_Md_isSo_204 : decode mi_Md_isSo.2.1 204 = .ok (.iaload, 1) := by decide +kernel
theorem dk_Md_isSo_205 : decode mi_Md_isSo.2.1 205 = .ok (.ifCond .ne 7, 3) := by decide +kernel
theorem dk_Md_isSo_208 : decode mi_Md_isSo.2.1 208 = .ok (.iconst 1, 1) := by decide +kernel
theorem dk_Md_isSo_209 : decode mi_Md_isSo.2.1 209 = .ok (.goto 4, 3) := by decide +kernel
theorem dk_Md_isSo_212 : decode mi_Md_isSo.2.1 212 = .ok (.iconst 0, 1) := by decide +kernel
theorem dk_Md_isSo_213 : decode mi_Md_isSo.2.1 213 = .ok (.ireturn, 1) := by decide +kernel
theorem dk_Md_isSo_214 : decode mi_Md_isSo.2.1 214 = .ok (.aload_n 0, 1) := by decide +kernel
theorem dk_Md_isSo_215 : decode mi_Md_isSo.2.1 215 = .ok (.getfield 133, 3) := by decide +kernel
theorem dk_Md_isSo_218 : decode mi_Md_isSo.2.1 218 = .ok (.aload_n 0, 1) := by decide +kernel
theorem dk_Md_isSo_219 : decode mi_Md_isSo.2.1 219 = .ok (.getfield 90, 3) := by decide +kernel
theorem dk_Md_isSo_222 : decode mi_Md_isSo.2.1 222 = .ok (.if_icmp .ge 20, 3) := by decide +kernel
theorem dk_Md_isSo_225 : decode mi_Md_isSo.2.1 225 = .ok (.aload_n 0, 1) := by decide +kernel
theorem dk_Md_isSo_226 : decode mi_Md_isSo.2.1 226 = .ok (.getfield 41, 3) := by decide +kernel
theorem dk_Md_isSo_229 : decode mi_Md_isSo.2.1 229 = .ok (.aload_n 0, 1) := by decide +kernel
theorem dk_Md_isSo_230 : decode mi_Md_isSo.2.1 230 = .ok (.getfield 133, 3) := by decide +kernel
theorem dk_Md_isSo_233 : decode mi_Md_isSo.2.1 233 = .ok (.iaload, 1) := by decide +kernel
theorem dk_Md_isSo_234 : decode mi_Md_isSo.2.1 234 = .ok (.iconst 3, 1) := by decide +kernel
theorem dk_Md_isSo_235 : decode mi_Md_isSo.2.1 235 = .ok (.if_icmp .eq 7, 3) := by decide +kernel
theorem dk_Md_isSo_238 : decode mi_Md_isSo.2.1 238 = .ok (.iconst 1, 1) := by decide +kernel
theorem dk_Md_isSo_239 : decode mi_Md_isSo.2.1 239 = .ok (.goto 4, 3) := by decide +kernel
theorem dk_Md_isSo_242 : decode mi_Md_isSo.2.1 242 = .ok (.iconst 0, 1) := by decide +kernel
theorem dk_Md_isSo_243 : decode mi_Md_isSo.2.1 243 = .ok (.ireturn, 1) := by decide +kernel
theorem dk_Md_isSo_244 : decode mi_Md_isSo.2.1 244 = .ok (.iconst 1, 1) := by decide +kernel
theorem dk_Md_isSo_245 : decode mi_Md_isSo.2.1 245 = .ok (.ireturn, 1) := by decide +kernel
def Md_isSo_j99 (y0 : Int32) (y1 : Int32) (σ : nm_St) : Option (Int32 × nm_St) :=
  (if y1 < y0 then
    some ((0 : Int32), σ)
  else
    some ((1 : Int32), σ))
set_option maxRecDepth 100000 in
set_option maxHeartbeats 4000000 in
theorem r_Md_isSo_j99 (X : nm_X) (F : nm_F) (hF0 : 0 ≤ nm_d F) (y0 : Int32) (y1 : Int32) (σ : nm_St) : Rn X mi_Md_isSo F (nm_Qf X F nm_wI) [] [.int y1, .int y0] 99 σ (Md_isSo_j99 y0 y1 σ) := by
  unfold Md_isSo_j99
  refine rn_icmp_gt (pc := 99) 106 dk_Md_isSo_99 (by decide) (fun c6 => ?_) (fun c6 => ?_)
  · refine rn_iconst (pc := 106) (0 : Int32) dk_Md_isSo_106 cn_i_0 ?_
    exact rn_zret (ty := .boolean) rfl rfl dk_Md_isSo_107
  · refine rn_iconst (pc := 102) (1 : Int32) dk_Md_isSo_102 cn_i_1 ?_
    refine rn_goto (pc := 103) 107 dk_Md_isSo_103 (by decide) ?_
    exact rn_zret (ty := .boolean) rfl rfl dk_Md_isSo_107
def Md_isSo_j127 (y0 : Int32) (y1 : Int32) (σ : nm_St) : Option (Int32 × nm_St) :=
  (if y1 ≤ y0 then
    some ((0 : Int32), σ)
  else
    some ((1 : Int32), σ))
set_option maxRecDepth 100000 in
set_option maxHeartbeats 4000000 in
theorem r_Md_isSo_j127 (X : nm_X) (F : nm_F) (hF0 : 0 ≤ nm_d F) (y0 : Int32) (y1 : Int32) (σ : nm_St) : Rn X mi_Md_isSo F (nm_Qf X F nm_wI) [] [.int y1, .int y0] 127 σ (Md_isSo_j127 y0 y1 σ) := by
  unfold Md_isSo_j127
  refine rn_icmp_ge (pc := 127) 134 dk_Md_isSo_127 (by decide) (fun c8 => ?_) (fun c8 => ?_)
  · refine rn_iconst (pc := 134) (0 : Int32) dk_Md_isSo_134 cn_i_0 ?_
    exact rn_zret (ty := .boolean) rfl rfl dk_Md_isSo_135
  · refine rn_iconst (pc := 130) (1 : Int32) dk_Md_isSo_130 cn_i_1 ?_
    refine rn_goto (pc := 131) 135 dk_Md_isSo_131 (by decide) ?_
    exact rn_zret (ty := .boolean) rfl rfl dk_Md_isSo_135
def Md_isSo (p1 : Int32) (p2 : Int32) (σ : nm_St) : Option (Int32 × nm_St) :=
  (if p1 = (0 : Int32) then
    (if (σ.1 70 26) < (σ.1 70 1) then
      some ((0 : Int32), σ)
    else
      (if (8 : Int32) < (σ.1 70 26) then
        some ((0 : Int32), σ)
      else
        some ((1 : Int32), σ)))
  else
  (if p1 = (1 : Int32) then
    (if p2 = 0 then
      Md_isSo_j99 (σ.1 70 26) (6 : Int32) σ
    else
      (if p2 = (1 : Int32) then
        Md_isSo_j99 (σ.1 70 26) (9 : Int32) σ
      else
        Md_isSo_j99 (σ.1 70 26) (99 : Int32) σ))
  else
  (if p1 = (2 : Int32) then
    (if p2 = 0 then
      Md_isSo_j127 (σ.1 70 26) (σ.1 70 0) σ
    else
      Md_isSo_j127 (σ.1 70 26) (σ.1 70 1) σ)
  else
  (if p1 = (3 : Int32) then
    (if (σ.1 70 0) ≤ (σ.1 70 26) then
      some ((0 : Int32), σ)
    else
      (if p2 = 0 then
        some ((1 : Int32), σ)
      else
        (nm_g (nm_in (0 : Int32) 3) (
        (if (σ.1 70 26) = (σ.1 86 (0 : Int32).toNatClampNeg) then
          some ((0 : Int32), σ)
        else
          some ((1 : Int32), σ))))))
  else
  (if p1 = (4 : Int32) then
    (if (99 : Int32) < (σ.1 70 26) then
      some ((0 : Int32), σ)
    else
      some ((1 : Int32), σ))
  else
  (if p1 = (5 : Int32) then
    some ((1 : Int32), σ)
  else
  (if p1 = (6 : Int32) then
    (if (σ.1 70 0) ≤ (σ.1 70 26) then
      some ((0 : Int32), σ)
    else
      (nm_g (nm_in (σ.1 70 26) 8) (
      (if (σ.1 77 (σ.1 70 26).toNatClampNeg) = 0 then
        some ((1 : Int32), σ)
      else
        some ((0 : Int32), σ)))))
  else
  (if p1 = (7 : Int32) then
    (if (σ.1 70 0) ≤ (σ.1 70 26) then
      some ((0 : Int32), σ)
    else
      (nm_g (nm_in (σ.1 70 26) 8) (
      (if (σ.1 77 (σ.1 70 26).toNatClampNeg) = (3 : Int32) then
        some ((0 : Int32), σ)
      else
        some ((1 : Int32), σ)))))
  else
    some ((1 : Int32), σ)))))))))
set_option maxRecDepth 100000 in
set_option maxHeartbeats 4000000 in
theorem ct_Md_isSo (X : nm_X) (p1 : Int32) (p2 : Int32) (σ : nm_St) : Ct X mi_Md_isSo 0 nm_wI [.ref 70, .int p1, .int p2] σ (Md_isSo p1 p2 σ) := by
  refine Ct.of (by decide +kernel) rfl (fun F hF0 => ?_)
  unfold Md_isSo
  refine rn_iload_n (pc := 0) 1 dk_Md_isSo_0 rfl rfl ?_
  refine rn_tcase (pc := 1) 0 (0 : Int32) 48 dk_Md_isSo_1 (by decide) (by decide) rfl (by decide) (fun c1_0 => ?_) (fun c1_0 => ?_)
  · refine rn_aload_n (pc := 48) 0 dk_Md_isSo_48 rfl rfl rfl ?_
    refine gf_Md_133 (pc := 49) rfl dk_Md_isSo_49 ?_
    refine rn_aload_n (pc := 52) 0 dk_Md_isSo_52 rfl rfl rfl ?_
    refine gf_Md_7 (pc := 53) rfl dk_Md_isSo_53 ?_
    refine rn_icmp_lt (pc := 56) 72 dk_Md_isSo_56 (by decide) (fun c2 => ?_) (fun c2 => ?_)
    · refine rn_iconst (pc := 72) (0 : Int32) dk_Md_isSo_72 cn_i_0 ?_
      exact rn_zret (ty := .boolean) rfl rfl dk_Md_isSo_73
    · refine rn_aload_n (pc := 59) 0 dk_Md_isSo_59 rfl rfl rfl ?_
      refine gf_Md_133 (pc := 60) rfl dk_Md_isSo_60 ?_
      refine rn_bipush (pc := 63) (8 : Int32) dk_Md_isSo_63 cn_b_8 ?_
      refine rn_icmp_gt (pc := 65) 72 dk_Md_isSo_65 (by decide) (fun c3 => ?_) (fun c3 => ?_)
      · refine rn_iconst (pc := 72) (0 : Int32) dk_Md_isSo_72 cn_i_0 ?_
        exact rn_zret (ty := .boolean) rfl rfl dk_Md_isSo_73
      · refine rn_iconst (pc := 68) (1 : Int32) dk_Md_isSo_68 cn_i_1 ?_
        refine rn_goto (pc := 69) 73 dk_Md_isSo_69 (by decide) ?_
        exact rn_zret (ty := .boolean) rfl rfl dk_Md_isSo_73
  refine rn_tcase (pc := 1) 1 (1 : Int32) 74 dk_Md_isSo_1 (by decide) (by decide) rfl (by decide) (fun c1_1 => ?_) (fun c1_1 => ?_)
  · refine rn_aload_n (pc := 74) 0 dk_Md_isSo_74 rfl rfl rfl ?_
    refine gf_Md_133 (pc := 75) rfl dk_Md_isSo_75 ?_
    refine rn_iload_n (pc := 78) 2 dk_Md_isSo_78 rfl rfl ?_
    refine rn_if_ne (pc := 79) 87 dk_Md_isSo_79 (by decide) (fun c4 => ?_) (fun c4 => ?_)
    · refine rn_iload_n (pc := 87) 2 dk_Md_isSo_87 rfl rfl ?_
      refine rn_iconst (pc := 88) (1 : Int32) dk_Md_isSo_88 cn_i_1 ?_
      refine rn_icmp_ne (pc := 89) 97 dk_Md_isSo_89 (by decide) (fun c5 => ?_) (fun c5 => ?_)
      · refine rn_bipush (pc := 97) (99 : Int32) dk_Md_isSo_97 cn_b_99 ?_
        exact rn_sub (by rfl) (r_Md_isSo_j99 X F hF0 (σ.1 70 26) (99 : Int32) σ)
      · refine rn_bipush (pc := 92) (9 : Int32) dk_Md_isSo_92 cn_b_9 ?_
        refine rn_goto (pc := 94) 99 dk_Md_isSo_94 (by decide) ?_
        exact rn_sub (by rfl) (r_Md_isSo_j99 X F hF0 (σ.1 70 26) (9 : Int32) σ)
    · refine rn_bipush (pc := 82) (6 : Int32) dk_Md_isSo_82 cn_b_6 ?_
      refine rn_goto (pc := 84) 99 dk_Md_isSo_84 (by decide) ?_
      exact rn_sub (by rfl) (r_Md_isSo_j99 X F hF0 (σ.1 70 26) (6 : Int32) σ)
  refine rn_tcase (pc := 1) 2 (2 : Int32) 108 dk_Md_isSo_1 (by decide) (by decide) rfl (by decide) (fun c1_2 => ?_) (fun c1_2 => ?_)
  · refine rn_aload_n (pc := 108) 0 dk_Md_isSo_108 rfl rfl rfl ?_
    refine gf_Md_133 (pc := 109) rfl dk_Md_isSo_109 ?_
    refine rn_iload_n (pc := 112) 2 dk_Md_isSo_112 rfl rfl ?_
    refine rn_if_ne (pc := 113) 123 dk_Md_isSo_113 (by decide) (fun c7 => ?_) (fun c7 => ?_)
    · refine rn_aload_n (pc := 123) 0 dk_Md_isSo_123 rfl rfl rfl ?_
      refine gf_Md_7 (pc := 124) rfl dk_Md_isSo_124 ?_
      exact rn_sub (by rfl) (r_Md_isSo_j127 X F hF0 (σ.1 70 26) (σ.1 70 1) σ)
    · refine rn_aload_n (pc := 116) 0 dk_Md_isSo_116 rfl rfl rfl ?_
      refine gf_Md_90 (pc := 117) rfl dk_Md_isSo_117 ?_
      refine rn_goto (pc := 120) 127 dk_Md_isSo_120 (by decide) ?_
      exact rn_sub (by rfl) (r_Md_isSo_j127 X F hF0 (σ.1 70 26) (σ.1 70 0) σ)
  refine rn_tcase (pc := 1) 3 (3 : Int32) 136 dk_Md_isSo_1 (by decide) (by decide) rfl (by decide) (fun c1_3 => ?_) (fun c1_3 => ?_)
  · refine rn_aload_n (pc := 136) 0 dk_Md_isSo_136 rfl rfl rfl ?_
    refine gf_Md_133 (pc := 137) rfl dk_Md_isSo_137 ?_
    refine rn_aload_n (pc := 140) 0 dk_Md_isSo_140 rfl rfl rfl ?_
    refine gf_Md_90 (pc := 141) rfl dk_Md_isSo_141 ?_
    refine rn_icmp_ge (pc := 144) 168 dk_Md_isSo_144 (by decide) (fun c9 => ?_) (fun c9 => ?_)
    · refine rn_iconst (pc := 168) (0 : Int32) dk_Md_isSo_168 cn_i_0 ?_
      exact rn_zret (ty := .boolean) rfl rfl dk_Md_isSo_169
    · refine rn_iload_n (pc := 147) 2 dk_Md_isSo_147 rfl rfl ?_
      refine rn_if_eq (pc := 148) 164 dk_Md_isSo_148 (by decide) (fun c10 => ?_) (fun c10 => ?_)
      · refine rn_iconst (pc := 164) (1 : Int32) dk_Md_isSo_164 cn_i_1 ?_
        refine rn_goto (pc := 165) 169 dk_Md_isSo_165 (by decide) ?_
        exact rn_zret (ty := .boolean) rfl rfl dk_Md_isSo_169
      · refine rn_aload_n (pc := 151) 0 dk_Md_isSo_151 rfl rfl rfl ?_
        refine gf_Md_133 (pc := 152) rfl dk_Md_isSo_152 ?_
        refine rn_aload_n (pc := 155) 0 dk_Md_isSo_155 rfl rfl rfl ?_
        refine gf_Md_69 (pc := 156) rfl dk_Md_isSo_156 ?_
        refine rn_iconst (pc := 159) (0 : Int32) dk_Md_isSo_159 cn_i_0 ?_
        refine rn_iaload (pc := 160) rfl dk_Md_isSo_160 (fun g11 => ?_)
        refine rn_icmp_eq (pc := 161) 168 dk_Md_isSo_161 (by decide) (fun c12 => ?_) (fun c12 => ?_)
        · refine rn_iconst (pc := 168) (0 : Int32) dk_Md_isSo_168 cn_i_0 ?_
          exact rn_zret (ty := .boolean) rfl rfl dk_Md_isSo_169
        · refine rn_iconst (pc := 164) (1 : Int32) dk_Md_isSo_164 cn_i_1 ?_
          refine rn_goto (pc := 165) 169 dk_Md_isSo_165 (by decide) ?_
          exact rn_zret (ty := .boolean) rfl rfl dk_Md_isSo_169
  refine rn_tcase (pc := 1) 4 (4 : Int32) 170 dk_Md_isSo_1 (by decide) (by decide) rfl (by decide) (fun c1_4 => ?_) (fun c1_4 => ?_)
  · refine rn_aload_n (pc := 170) 0 dk_Md_isSo_170 rfl rfl rfl ?_
    refine gf_Md_133 (pc := 171) rfl dk_Md_isSo_171 ?_
    refine rn_bipush (pc := 174) (99 : Int32) dk_Md_isSo_174 cn_b_99 ?_
    refine rn_icmp_gt (pc := 176) 183 dk_Md_isSo_176 (by decide) (fun c13 => ?_) (fun c13 => ?_)
    · refine rn_iconst (pc := 183) (0 : Int32) dk_Md_isSo_183 cn_i_0 ?_
      exact rn_zret (ty := .boolean) rfl rfl dk_Md_isSo_184
    · refine rn_iconst (pc := 179) (1 : Int32) dk_Md_isSo_179 cn_i_1 ?_
      refine rn_goto (pc := 180) 184 dk_Md_isSo_180 (by decide) ?_
      exact rn_zret (ty := .boolean) rfl rfl dk_Md_isSo_184
  refine rn_tcase (pc := 1) 5 (5 : Int32) 244 dk_Md_isSo_1 (by decide) (by decide) rfl (by decide) (fun c1_5 => ?_) (fun c1_5 => ?_)
  · refine rn_iconst (pc := 244) (1 : Int32) dk_Md_isSo_244 cn_i_1 ?_
    exact rn_zret (ty := .boolean) rfl rfl dk_Md_isSo_245
  refine rn_tcase (pc := 1) 6 (6 : Int32) 185 dk_Md_isSo_1 (by decide) (by decide) rfl (by decide) (fun c1_6 => ?_) (fun c1_6 => ?_)
  · refine rn_aload_n (pc := 185) 0 dk_Md_isSo_185 rfl rfl rfl ?_
    refine gf_Md_133 (pc := 186) rfl dk_Md_isSo_186 ?_
    refine rn_aload_n (pc := 189) 0 dk_Md_isSo_189 rfl rfl rfl ?_
    refine gf_Md_90 (pc := 190) rfl dk_Md_isSo_190 ?_
    refine rn_icmp_ge (pc := 193) 212 dk_Md_isSo_193 (by decide) (fun c14 => ?_) (fun c14 => ?_)
    · refine rn_iconst (pc := 212) (0 : Int32) dk_Md_isSo_212 cn_i_0 ?_
      exact rn_zret (ty := .boolean) rfl rfl dk_Md_isSo_213
    · refine rn_aload_n (pc := 196) 0 dk_Md_isSo_196 rfl rfl rfl ?_
      refine gf_Md_41 (pc := 197) rfl dk_Md_isSo_197 ?_
      refine rn_aload_n (pc := 200) 0 dk_Md_isSo_200 rfl rfl rfl ?_
      refine gf_Md_133 (pc := 201) rfl dk_Md_isSo_201 ?_
      refine rn_iaload (pc := 204) rfl dk_Md_isSo_204 (fun g15 => ?_)
      refine rn_if_ne (pc := 205) 212 dk_Md_isSo_205 (by decide) (fun c16 => ?_) (fun c16 => ?_)
      · refine rn_iconst (pc := 212) (0 : Int32) dk_Md_isSo_212 cn_i_0 ?_
        exact rn_zret (ty := .boolean) rfl rfl dk_Md_isSo_213
      · refine rn_iconst (pc := 208) (1 : Int32) dk_Md_isSo_208 cn_i_1 ?_
        refine rn_goto (pc := 209) 213 dk_Md_isSo_209 (by decide) ?_
        exact rn_zret (ty := .boolean) rfl rfl dk_Md_isSo_213
  refine rn_tcase (pc := 1) 7 (7 : Int32) 214 dk_Md_isSo_1 (by decide) (by decide) rfl (by decide) (fun c1_7 => ?_) (fun c1_7 => ?_)
  · refine rn_aload_n (pc := 214) 0 dk_Md_isSo_214 rfl rfl rfl ?_
    refine gf_Md_133 (pc := 215) rfl dk_Md_isSo_215 ?_
    refine rn_aload_n (pc := 218) 0 dk_Md_isSo_218 rfl rfl rfl ?_
    refine gf_Md_90 (pc := 219) rfl dk_Md_isSo_219 ?_
    refine rn_icmp_ge (pc := 222) 242 dk_Md_isSo_222 (by decide) (fun c17 => ?_) (fun c17 => ?_)
    · refine rn_iconst (pc := 242) (0 : Int32) dk_Md_isSo_242 cn_i_0 ?_
      exact rn_zret (ty := .boolean) rfl rfl dk_Md_isSo_243
    · refine rn_aload_n (pc := 225) 0 dk_Md_isSo_225 rfl rfl rfl ?_
      refine gf_Md_41 (pc := 226) rfl dk_Md_isSo_226 ?_
      refine rn_aload_n (pc := 229) 0 dk_Md_isSo_229 rfl rfl rfl ?_
      refine gf_Md_133 (pc := 230) rfl dk_Md_isSo_230 ?_
      refine rn_iaload (pc := 233) rfl dk_Md_isSo_233 (fun g18 => ?_)
      refine rn_iconst (pc := 234) (3 : Int32) dk_Md_isSo_234 cn_i_3 ?_
      refine rn_icmp_eq (pc := 235) 242 dk_Md_isSo_235 (by decide) (fun c19 => ?_) (fun c19 => ?_)
      · refine rn_iconst (pc := 242) (0 : Int32) dk_Md_isSo_242 cn_i_0 ?_
        exact rn_zret (ty := .boolean) rfl rfl dk_Md_isSo_243
      · refine rn_iconst (pc := 238) (1 : Int32) dk_Md_isSo_238 cn_i_1 ?_
        refine rn_goto (pc := 239) 243 dk_Md_isSo_239 (by decide) ?_
        exact rn_zret (ty := .boolean) rfl rfl dk_Md_isSo_243
  refine rn_tdef (pc := 1) [(0 : Int32), (1 : Int32), (2 : Int32), (3 : Int32), (4 : Int32), (5 : Int32), (6 : Int32), (7 : Int32)] 244 dk_Md_isSo_1 (by decide) (by decide) (List.forall_mem_cons.mpr ⟨c1_0, (List.forall_mem_cons.mpr ⟨c1_1, (List.forall_mem_cons.mpr ⟨c1_2, (List.forall_mem_cons.mpr ⟨c1_3, (List.forall_mem_cons.mpr ⟨c1_4, (List.forall_mem_cons.mpr ⟨c1_5, (List.forall_mem_cons.mpr ⟨c1_6, (List.forall_mem_cons.mpr ⟨c1_7, (fun _ h => absurd h List.not_mem_nil)⟩)⟩)⟩)⟩)⟩)⟩)⟩)⟩) (by decide) ?_
  refine rn_iconst (pc := 244) (1 : Int32) dk_Md_isSo_244 cn_i_1 ?_
  exact rn_zret (ty := .boolean) rfl rfl dk_Md_isSo_245
theorem dk_Md_isDigit_0 : decode mi_Md_isDigit.2.1 0 = .ok (.aload_n 0, 1) := by decide +kernel
theorem dk_Md_isDigit_1 : decode mi_Md_isDigit.2.1 1 = .ok (.getfield 124, 3) := by decide +kernel
theorem dk_Md_isDigit_4 : decode mi_Md_isDigit.2.1 4 = .ok (.aload_n 0, 1) := by decide +kernel
theorem dk_Md_isDigit_5 : decode mi_Md_isDigit.2.1 5 = .ok (.getfield 127, 3) := by decide +kernel
theorem dk_Md_isDigit_8 : decode mi_Md_isDigit.2.1 8 = .ok (.if_icmp .ge 47, 3) := by decide +kernel
theorem dk_Md_isDigit_11 : decode mi_Md_isDigit.2.1 11 = .ok (.aload_n 0, 1) := by decide +kernel
theorem dk_Md_isDigit_12 : decode mi_Md_isDigit.2.1 12 = .ok (.getfield 56, 3) := by decide +kernel
theorem dk_Md_isDigit_15 : decode mi_Md_isDigit.2.1 15 = .ok (.aload_n 0, 1) := by decide +kernel
theorem dk_Md_isDigit_16 : decode mi_Md_isDigit.2.1 16 = .ok (.getfield 130, 3) := by decide +kernel
theorem dk_Md_isDigit_19 : decode mi_Md_isDigit.2.1 19 = .ok (.aload_n 0, 1) := by decide +kernel
theorem dk_Md_isDigit_20 : decode mi_Md_isDigit.2.1 20 = .ok (.getfield 124, 3) := by decide +kernel
theorem dk_Md_isDigit_23 : decode mi_Md_isDigit.2.1 23 = .ok (.iadd, 1) := by decide +kernel
theorem dk_Md_isDigit_24 : decode mi_Md_isDigit.2.1 24 = .ok (.laload, 1) := by decide +kernel
theorem dk_Md_isDigit_25 : decode mi_Md_isDigit.2.1 25 = .ok (.l2i, 1) := by decide +kernel
theorem dk_Md_isDigit_26 : decode mi_Md_isDigit.2.1 26 = .ok (.bipush 48, 2) := by decide +kernel
theorem dk_Md_isDigit_28 : decode mi_Md_isDigit.2.1 28 = .ok (.if_icmp .lt 27, 3) := by decide +kernel
theorem dk_Md_isDigit_31 : decode mi_Md_isDigit.2.1 31 = .ok (.aload_n 0, 1) := by decide +kernel
theorem dk_Md_isDigit_32 : decode mi_Md_isDigit.2.1 32 = .ok (.getfield 56, 3) := by decide +kernel
theorem dk_Md_isDigit_35 : decode mi_Md_isDigit.2.1 35 = .ok (.aload_n 0, 1) := by decide +kernel
theorem dk_Md_isDigit_36 : decode mi_Md_isDigit.2.1 36 = .ok (.getfield 130, 3) := by decide +kernel
theorem dk_Md_isDigit_39 : decode mi_Md_isDigit.2.1 39 = .ok (.aload_n 0, 1) := by decide +kernel
theorem dk_Md_isDigit_40 : decode mi_Md_isDigit.2.1 40 = .ok (.getfield 124, 3) := by decide +kernel
theorem dk_Md_isDigit_43 : decode mi_Md_isDigit.2.1 43 = .ok (.iadd, 1) := by decide +kernel
theorem dk_Md_isDigit_44 : decode mi_Md_isDigit.2.1 44 = .ok (.laload, 1) := by decide +kernel
theorem dk_Md_isDigit_45 : decode mi_Md_isDigit.2.1 45 = .ok (.l2i, 1) := by decide +kernel
theorem dk_Md_isDigit_46 : decode mi_Md_isDigit.2.1 46 = .ok (.bipush 57, 2) := by decide +kernel
theorem dk_Md_isDigit_48 : decode mi_Md_isDigit.2.1 48 = .ok (.if_icmp .gt 7, 3) := by decide +kernel
theorem dk_Md_isDigit_51 : decode mi_Md_isDigit.2.1 51 = .ok (.iconst 1, 1) := by decide +kernel
theorem dk_Md_isDigit_52 : decode mi_Md_isDigit.2.1 52 = .ok (.goto 4, 3) := by decide +kernel
theorem dk_Md_isDigit_55 : decode mi_Md_isDigit.2.1 55 = .ok (.iconst 0, 1) := by decide +kernel
theorem dk_Md_isDigit_56 : decode mi_Md_isDigit.2.1 56 = .ok (.ireturn, 1) := by decide +kernel
def Md_isDigit (σ : nm_St) : Option (Int32 × nm_St) :=
  (if (σ.1 70 25) ≤ (σ.1 70 24) then
    some ((0 : Int32), σ)
  else
    (nm_g (nm_in ((σ.1 70 23) + (σ.1 70 24)) 1280) (
    (if (Int64.toInt32 (σ.2 82 ((σ.1 70 23) + (σ.1 70 24)).toNatClampNeg)) < (48 : Int32) then
      some ((0 : Int32), σ)
    else
      (nm_g (nm_in ((σ.1 70 23) + (σ.1 70 24)) 1280) (
      (if (57 : Int32) < (Int64.toInt32 (σ.2 82 ((σ.1 70 23) + (σ.1 70 24)).toNatClampNeg)) then
        some ((0 : Int32), σ)
      else
        some ((1 : Int32), σ))))))))
set_option maxRecDepth 100000 in
set_option maxHeartbeats 4000000 in
theorem ct_Md_isDigit (X : nm_X) (σ : nm_St) : Ct X mi_Md_isDigit 0 nm_wI [.ref 70] σ (Md_isDigit σ) := by
  refine Ct.of (by decide +kernel) rfl (fun F hF0 => ?_)
  unfold Md_isDigit
  refine rn_aload_n (pc := 0) 0 dk_Md_isDigit_0 rfl rfl rfl ?_
  refine gf_Md_124 (pc := 1) rfl dk_Md_isDigit_1 ?_
  refine rn_aload_n (pc := 4) 0 dk_Md_isDigit_4 rfl rfl rfl ?_
  refine gf_Md_127 (pc := 5) rfl dk_Md_isDigit_5 ?_
  refine rn_icmp_ge (pc := 8) 55 dk_Md_isDigit_8 (by decide) (fun c1 => ?_) (fun c1 => ?_)
  · refine rn_iconst (pc := 55) (0 : Int32) dk_Md_isDigit_55 cn_i_0 ?_
    exact rn_zret (ty := .boolean) rfl rfl dk_Md_isDigit_56
  · refine rn_aload_n (pc := 11) 0 dk_Md_isDigit_11 rfl rfl rfl ?_
    refine gf_Md_56 (pc := 12) rfl dk_Md_isDigit_12 ?_
    refine rn_aload_n (pc := 15) 0 dk_Md_isDigit_15 rfl rfl rfl ?_
    refine gf_Md_130 (pc := 16) rfl dk_Md_isDigit_16 ?_
    refine rn_aload_n (pc := 19) 0 dk_Md_isDigit_19 rfl rfl rfl ?_
    refine gf_Md_124 (pc := 20) rfl dk_Md_isDigit_20 ?_
    refine rn_iadd (pc := 23) dk_Md_isDigit_23 ?_
    refine rn_laload (pc := 24) rfl dk_Md_isDigit_24 (fun g2 => ?_)
    refine rn_l2i (pc := 25) dk_Md_isDigit_25 ?_
    refine rn_bipush (pc := 26) (48 : Int32) dk_Md_isDigit_26 cn_b_48 ?_
    refine rn_icmp_lt (pc := 28) 55 dk_Md_isDigit_28 (by decide) (fun c3 => ?_) (fun c3 => ?_)
    · refine rn_iconst (pc := 55) (0 : Int32) dk_Md_isDigit_55 cn_i_0 ?_
      exact rn_zret (ty := .boolean) rfl rfl dk_Md_isDigit_56
    · refine rn_aload_n (pc := 31) 0 dk_Md_isDigit_31 rfl rfl rfl ?_
      refine gf_Md_56 (pc := 32) rfl dk_Md_isDigit_32 ?_
      refine rn_aload_n (pc := 35) 0 dk_Md_isDigit_35 rfl rfl rfl ?_
      refine gf_Md_130 (pc := 36) rfl dk_Md_isDigit_36 ?_
      refine rn_aload_n (pc := 39) 0 dk_Md_isDigit_39 rfl rfl rfl ?_
      refine gf_Md_124 (pc := 40) rfl dk_Md_isDigit_40 ?_
      refine rn_iadd (pc := 43) dk_Md_isDigit_43 ?_
      refine rn_laload (pc := 44) rfl dk_Md_isDigit_44 (fun g4 => ?_)
      refine rn_l2i (pc := 45) dk_Md_isDigit_45 ?_
      refine rn_bipush (pc := 46) (57 : Int32) dk_Md_isDigit_46 cn_b_57 ?_
      refine rn_icmp_gt (pc := 48) 55 dk_Md_isDigit_48 (by decide) (fun c5 => ?_) (fun c5 => ?_)
      · refine rn_iconst (pc := 55) (0 : Int32) dk_Md_isDigit_55 cn_i_0 ?_
        exact rn_zret (ty := .boolean) rfl rfl dk_Md_isDigit_56
      · refine rn_iconst (pc := 51) (1 : Int32) dk_Md_isDigit_51 cn_i_1 ?_
        refine rn_goto (pc := 52) 56 dk_Md_isDigit_52 (by decide) ?_
        exact rn_zret (ty := .boolean) rfl rfl dk_Md_isDigit_56
theorem dk_Md_wrong_0 : decode mi_Md_wrong.2.1 0 = .ok (.aload_n 0, 1) := by decide +kernel
theorem dk_Md_wrong_1 : decode mi_Md_wrong.2.1 1 = .ok (.iload_n 1, 1) := by decide +kernel
theorem dk_Md_wrong_2 : decode mi_Md_wrong.2.1 2 = .ok (.putfield 121, 3) := by decide +kernel
theorem dk_Md_wrong_5 : decode mi_Md_wrong.2.1 5 = .ok (.iconst 0, 1) := by decide +kernel
theorem dk_Md_wrong_6 : decode mi_Md_wrong.2.1 6 = .ok (.ireturn, 1) := by decide +kernel
def Md_wrong (p1 : Int32) (σ : nm_St) : Option (Int32 × nm_St) :=
  (nm_let (nm_pI σ 70 27 p1) fun s1 =>
  some ((0 : Int32), s1))
set_option maxRecDepth 100000 in
set_option maxHeartbeats 4000000 in
theorem ct_Md_wrong (X : nm_X) (p1 : Int32) (σ : nm_St) : Ct X mi_Md_wrong 0 nm_wI [.ref 70, .int p1] σ (Md_wrong p1 σ) := by
  refine Ct.of (by decide +kernel) rfl (fun F hF0 => ?_)
  unfold Md_wrong
  refine rn_aload_n (pc := 0) 0 dk_Md_wrong_0 rfl rfl rfl ?_
  refine rn_iload_n (pc := 1) 1 dk_Md_wrong_1 rfl rfl ?_
  refine pf_Md_121 (pc := 2) rfl dk_Md_wrong_2 ?_
  refine rn_lets (fun s1 => ?_)
  refine rn_iconst (pc := 5) (0 : Int32) dk_Md_wrong_5 cn_i_0 ?_
  exact rn_zret (ty := .boolean) rfl rfl dk_Md_wrong_6
theorem dk_Md_reads_0 : decode mi_Md_reads.2.1 0 = .ok (.aload_n 0, 1) := by decide +kernel
theorem dk_Md_reads_1 : decode mi_Md_reads.2.1 1 = .ok (.iconst 0, 1) := by decide +kernel
theorem dk_Md_reads_2 : decode mi_Md_reads.2.1 2 = .ok (.putfield 133, 3) := by decide +kernel
theorem dk_Md_reads_5 : decode mi_Md_reads.2.1 5 = .ok (.aload_n 0, 1) := by decide +kernel
theorem dk_Md_reads_6 : decode mi_Md_reads.2.1 6 = .ok (.invokevirtual 136, 3) := by decide +kernel
theorem dk_Md_reads_9 : decode mi_Md_reads.2.1 9 = .ok (.ifCond .ne 12, 3) := by decide +kernel
theorem dk_Md_reads_12 : decode mi_Md_reads.2.1 12 = .ok (.aload_n 0, 1) := by decide +kernel
theorem dk_Md_reads_13 : decode mi_Md_reads.2.1 13 = .ok (.aload_n 0, 1) := by decide +kernel
theorem dk_Md_reads_14 : decode mi_Md_reads.2.1 14 = .ok (.getfield 124, 3) := by decide +kernel
theorem dk_Md_reads_17 : decode mi_Md_reads.2.1 17 = .ok (.invokevirtual 140, 3) := by decide +kernel
theorem dk_Md_reads_20 : decode mi_Md_reads.2.1 20 = .ok (.ireturn, 1) := by decide +kernel
theorem dk_Md_reads_21 : decode mi_Md_reads.2.1 21 = .ok (.iconst 0, 1) := by decide +kernel
theorem dk_Md_reads_22 : decode mi_Md_reads.2.1 22 = .ok (.istore_n 1, 1) := by decide +kernel
theorem dk_Md_reads_23 : decode mi_Md_reads.2.1 23 = .ok (.iload_n 1, 1) := by decide +kernel
theorem dk_Md_reads_24 : decode mi_Md_reads.2.1 24 = .ok (.iconst 4, 1) := by decide +kernel
theorem dk_Md_reads_25 : decode mi_Md_reads.2.1 25 = .ok (.if_icmp .ge 56, 3) := by decide +kernel
theorem dk_Md_reads_28 : decode mi_Md_reads.2.1 28 = .ok (.aload_n 0, 1) := by decide +kernel
theorem dk_Md_reads_29 : decode mi_Md_reads.2.1 29 = .ok (.invokevirtual 136, 3) := by decide +kernel
theorem dk_Md_reads_32 : decode mi_Md_reads.2.1 32 = .ok (.ifCond .eq 49, 3) := by decide +kernel
theorem dk_Md_reads_35 : decode mi_Md_reads.2.1 35 = .ok (.aload_n 0, 1) := by decide +kernel
theorem dk_Md_reads_36 : decode mi_Md_reads.2.1 36 = .ok (.bipush 10, 2) := by decide +kernel
theorem dk_Md_reads_38 : decode mi_Md_reads.2.1 38 = .ok (.aload_n 0, 1) := by decide +kernel
theorem dk_Md_reads_39 : decode mi_Md_reads.2.1 39 = .ok (.getfield 133, 3) := by decide +kernel
theorem dk_Md_reads_42 : decode mi_Md_reads.2.1 42 = .ok (.imul, 1) := by decide +kernel
theorem dk_Md_reads_43 : decode mi_Md_reads.2.1 43 = .ok (.aload_n 0, 1) := by decide +kernel
theorem dk_Md_reads_44 : decode mi_Md_reads.2.1 44 = .ok (.getfield 56, 3) := by decide +kernel
theorem dk_Md_reads_47 : decode mi_Md_reads.2.1 47 = .ok (.aload_n 0, 1) := by decide +kernel
theorem dk_Md_reads_48 : decode mi_Md_reads.2.1 48 = .ok (.getfield 130, 3) := by decide +kernel
theorem dk_Md_reads_51 : decode mi_Md_reads.2.1 51 = .ok (.aload_n 0, 1) := by decide +kernel
theorem dk_Md_reads_52 : decode mi_Md_reads.2.1 52 = .ok (.getfield 124, 3) := by decide +kernel
theorem dk_Md_reads_55 : decode mi_Md_reads.2.1 55 = .ok (.iadd, 1) := by decide +kernel
theorem dk_Md_reads_56 : decode mi_Md_reads.2.1 56 = .ok (.laload, 1) := by decide +kernel
theorem dk_Md_reads_57 : decode mi_Md_reads.2.1 57 = .ok (.l2i, 1) := by decide +kernel
theorem dk_Md_reads_58 : decode mi_Md_reads.2.1 58 = .ok (.iadd, 1) := by decide +kernel
theorem dk_Md_reads_59 : decode mi_Md_reads.2.1 59 = .ok (.bipush 48, 2) := by decide +kernel
theorem dk_Md_reads_61 : decode mi_Md_reads.2.1 61 = .ok (.isub, 1) := by decide +kernel
theorem dk_Md_reads_62 : decode mi_Md_reads.2.1 62 = .ok (.putfield 133, 3) := by decide +kernel
theorem dk_Md_reads_65 : decode mi_Md_reads.2.1 65 = .ok (.aload_n 0, 1) := by decide +kernel
theorem dk_Md_reads_66 : decode mi_Md_reads.2.1 66 = .ok (.dup, 1) := by decide +kernel
theorem dk_Md_reads_67 : decode mi_Md_reads.2.1 67 = .ok (.getfield 124, 3) := by decide +kernel
theorem dk_Md_reads_70 : decode mi_Md_reads.2.1 70 = .ok (.iconst 1, 1) := by decide +kernel
theorem dk_Md_reads_71 : decode mi_Md_reads.2.1 71 = .ok (.iadd, 1) := by decide +kernel
theorem dk_Md_reads_72 : decode mi_Md_reads.2.1 72 = .ok (.putfield 124, 3) := by decide +kernel
theorem dk_Md_reads_75 : decode mi_Md_reads.2.1 75 = .ok (.iinc 1 1, 3) := by decide +kernel
theorem dk_Md_reads_78 : decode mi_Md_reads.2.1 78 = .ok (.goto (-55), 3) := by decide +kernel
theorem dk_Md_reads_81 : decode mi_Md_reads.2.1 81 = .ok (.iconst 1, 1) := by decide +kernel
theorem dk_Md_reads_82 : decode mi_Md_reads.2.1 82 = .ok (.ireturn, 1) := by decide +kernel
def Md_reads_l23 (k_81 : nm_St → Option (Int32 × nm_St)) : Nat → Int32 → nm_St → Option (Int32 × nm_St)
  | 0, _, _ => none
  | n + 1, x1, σ =>
    (if (4 : Int32) ≤ x1 then
      k_81 σ
    else
      ((Md_isDigit σ).bind fun q5 =>
      (if q5.1 = 0 then
        k_81 q5.2
      else
        (nm_g (nm_in ((q5.2.1 70 23) + (q5.2.1 70 24)) 1280) (
        (nm_let (nm_pI q5.2 70 26 ((((10 : Int32) * (q5.2.1 70 26)) + (Int64.toInt32 (q5.2.2 82 ((q5.2.1 70 23) + (q5.2.1 70 24)).toNatClampNeg))) - (48 : Int32))) fun s8 =>
        (nm_let (nm_pI s8 70 24 ((s8.1 70 24) + (1 : Int32))) fun s9 =>
        (Md_reads_l23 k_81 n) (x1 + (1 : Int32)) s9)))))))
set_option maxRecDepth 100000 in
set_option maxHeartbeats 4000000 in
theorem r_Md_reads_l23 (X : nm_X) (F : nm_F) (hF0 : 1 ≤ nm_d F) (k_81 : nm_St → Option (Int32 × nm_St)) (hk_81 : ∀ (σ : nm_St), Rn X mi_Md_reads F (nm_Qf X F nm_wI) [] [] 81 σ (k_81 σ)) : ∀ (n : Nat) (x1 : Int32) (σ : nm_St), Rn X mi_Md_reads F (nm_Qf X F nm_wI) [(0, .ref 70), (1, .int x1)] [] 23 σ (Md_reads_l23 k_81 n x1 σ) := by
  intro n
  induction n with
  | zero =>
    intro x1 σ
    exact rn_none
  | succ n ih =>
    intro x1 σ
    unfold Md_reads_l23
    refine rn_iload_n (pc := 23) 1 dk_Md_reads_23 rfl rfl ?_
    refine rn_iconst (pc := 24) (4 : Int32) dk_Md_reads_24 cn_i_4 ?_
    refine rn_icmp_ge (pc := 25) 81 dk_Md_reads_25 (by decide) (fun c4 => ?_) (fun c4 => ?_)
    · exact rn_sub (by rfl) (hk_81 σ)
    · refine rn_aload_n (pc := 28) 0 dk_Md_reads_28 rfl rfl rfl ?_
      refine cl_Md_136 (pc := 29) (As := []) (st := []) rfl (ct_Md_isDigit X σ) (Nat.le_trans (Nat.le_of_ble_eq_true rfl) hF0) rfl rfl (Nat.le_of_ble_eq_true rfl) dk_Md_reads_29 (fun q5 => ?_)
      refine rn_if_eq (pc := 32) 81 dk_Md_reads_32 (by decide) (fun c6 => ?_) (fun c6 => ?_)
      · exact rn_sub (by rfl) (hk_81 q5.2)
      · refine rn_aload_n (pc := 35) 0 dk_Md_reads_35 rfl rfl rfl ?_
        refine rn_bipush (pc := 36) (10 : Int32) dk_Md_reads_36 cn_b_10 ?_
        refine rn_aload_n (pc := 38) 0 dk_Md_reads_38 rfl rfl rfl ?_
        refine gf_Md_133 (pc := 39) rfl dk_Md_reads_39 ?_
        refine rn_imul (pc := 42) dk_Md_reads_42 ?_
        refine rn_aload_n (pc := 43) 0 dk_Md_reads_43 rfl rfl rfl ?_
        refine gf_Md_56 (pc := 44) rfl dk_Md_reads_44 ?_
        refine rn_aload_n (pc := 47) 0 dk_Md_reads_47 rfl rfl rfl ?_
        refine gf_Md_130 (pc := 48) rfl dk_Md_reads_48 ?_
        refine rn_aload_n (pc := 51) 0 dk_Md_reads_51 rfl rfl rfl ?_
        refine gf_Md_124 (pc := 52) rfl dk_Md_reads_52 ?_
        refine rn_iadd (pc := 55) dk_Md_reads_55 ?_
        refine rn_laload (pc := 56) rfl dk_Md_reads_56 (fun g7 => ?_)
        refine rn_l2i (pc := 57) dk_Md_reads_57 ?_
        refine rn_iadd (pc := 58) dk_Md_reads_58 ?_
        refine rn_bipush (pc := 59) (48 : Int32) dk_Md_reads_59 cn_b_48 ?_
        refine rn_isub (pc := 61) dk_Md_reads_61 ?_
        refine pf_Md_133 (pc := 62) rfl dk_Md_reads_62 ?_
        refine rn_lets (fun s8 => ?_)
        refine rn_aload_n (pc := 65) 0 dk_Md_reads_65 rfl rfl rfl ?_
        refine rn_dup (pc := 66) dk_Md_reads_66 rfl ?_
        refine gf_Md_124 (pc := 67) rfl dk_Md_reads_67 ?_
        refine rn_iconst (pc := 70) (1 : Int32) dk_Md_reads_70 cn_i_1 ?_
        refine rn_iadd (pc := 71) dk_Md_reads_71 ?_
        refine pf_Md_124 (pc := 72) rfl dk_Md_reads_72 ?_
        refine rn_lets (fun s9 => ?_)
        refine rn_iinc (pc := 75) (1 : Int32) dk_Md_reads_75 cn_i_1 rfl rfl rfl ?_
        refine rn_goto (pc := 78) 23 dk_Md_reads_78 (by decide) ?_
        exact rn_sub (by rfl) (ih (x1 + (1 : Int32)) s9)
def Md_reads (σ : nm_St) : Option (Int32 × nm_St) :=
  (nm_let (nm_pI σ 70 26 (0 : Int32)) fun s1 =>
  ((Md_isDigit s1).bind fun q2 =>
  (if q2.1 = 0 then
    ((Md_wrong (q2.2.1 70 24) q2.2).bind fun q11 =>
    (nm_g (nm_bz q11.1) (
    some (q11.1, q11.2))))
  else
    Md_reads_l23 (fun (s10 : nm_St) =>
      some ((1 : Int32), s10)) 400 (0 : Int32) q2.2)))
set_option maxRecDepth 100000 in
set_option maxHeartbeats 4000000 in
theorem ct_Md_reads (X : nm_X) (σ : nm_St) : Ct X mi_Md_reads 1 nm_wI [.ref 70] σ (Md_reads σ) := by
  refine Ct.of (by decide +kernel) rfl (fun F hF0 => ?_)
  unfold Md_reads
  refine rn_aload_n (pc := 0) 0 dk_Md_reads_0 rfl rfl rfl ?_
  refine rn_iconst (pc := 1) (0 : Int32) dk_Md_reads_1 cn_i_0 ?_
  refine pf_Md_133 (pc := 2) rfl dk_Md_reads_2 ?_
  refine rn_lets (fun s1 => ?_)
  refine rn_aload_n (pc := 5) 0 dk_Md_reads_5 rfl rfl rfl ?_
  refine cl_Md_136 (pc := 6) (As := []) (st := []) rfl (ct_Md_isDigit X s1) (Nat.le_trans (Nat.le_of_ble_eq_true rfl) hF0) rfl rfl (Nat.le_of_ble_eq_true rfl) dk_Md_reads_6 (fun q2 => ?_)
  refine rn_if_ne (pc := 9) 21 dk_Md_reads_9 (by decide) (fun c3 => ?_) (fun c3 => ?_)
  · refine rn_iconst (pc := 21) (0 : Int32) dk_Md_reads_21 cn_i_0 ?_
    refine rn_istore_n (pc := 22) 1 dk_Md_reads_22 rfl rfl rfl ?_
    refine rn_sub (by rfl) (r_Md_reads_l23 X F hF0 _ (fun s10 => ?_) 400 (0 : Int32) q2.2)
    refine rn_iconst (pc := 81) (1 : Int32) dk_Md_reads_81 cn_i_1 ?_
    exact rn_zret (ty := .boolean) rfl rfl dk_Md_reads_82
  · refine rn_aload_n (pc := 12) 0 dk_Md_reads_12 rfl rfl rfl ?_
    refine rn_aload_n (pc := 13) 0 dk_Md_reads_13 rfl rfl rfl ?_
    refine gf_Md_124 (pc := 14) rfl dk_Md_reads_14 ?_
    refine cl_Md_140 (pc := 17) (As := [.int (q2.2.1 70 24)]) (st := []) rfl (ct_Md_wrong X (q2.2.1 70 24) q2.2) (Nat.le_trans (Nat.le_of_ble_eq_true rfl) hF0) rfl rfl (Nat.le_of_ble_eq_true rfl) dk_Md_reads_17 (fun q11 => ?_)
    refine rn_guard (fun g12 => ?_)
    exact rn_zret (ty := .boolean) rfl (nm_bz_n g12) dk_Md_reads_20
theorem dk_Md_stands1_0 : decode mi_Md_stands1.2.1 0 = .ok (.iconst 0, 1) := by decide +kernel
theorem dk_Md_stands1_1 : decode mi_Md_stands1.2.1 1 = .ok (.istore_n 2, 1) := by decide +kernel
theorem dk_Md_stands1_2 : decode mi_Md_stands1.2.1 2 = .ok (.iconst 0, 1) := by decide +kernel
theorem dk_Md_stands1_3 : decode mi_Md_stands1.2.1 3 = .ok (.istore_n 3, 1) := by decide +kernel
theorem dk_Md_stands1_4 : decode mi_Md_stands1.2.1 4 = .ok (.iload_n 3, 1) := by decide +kernel
theorem dk_Md_stands1_5 : decode mi_Md_stands1.2.1 5 = .ok (.iload_n 1, 1) := by decide +kernel
theorem dk_Md_stands1_6 : decode mi_Md_stands1.2.1 6 = .ok (.if_icmp .ge 26, 3) := by decide +kernel
theorem dk_Md_stands1_9 : decode mi_Md_stands1.2.1 9 = .ok (.iload_n 3, 1) := by decide +kernel
theorem dk_Md_stands1_10 : decode mi_Md_stands1.2.1 10 = .ok (.aload_n 0, 1) := by decide +kernel
theorem dk_Md_stands1_11 : decode mi_Md_stands1.2.1 11 = .ok (.getfield 63, 3) := by decide +kernel
theorem dk_Md_stands1_14 : decode mi_Md_stands1.2.1 14 = .ok (.iload_n 2, 1) := by decide +kernel
theorem dk_Md_stands1_15 : decode mi_Md_stands1.2.1 15 = .ok (.iaload, 1) := by decide +kernel
theorem dk_Md_stands1_16 : decode mi_Md_stands1.2.1 16 = .ok (.ifCond .ne 7, 3) := by decide +kernel
theorem dk_Md_stands1_19 : decode mi_Md_stands1.2.1 19 = .ok (.iconst 1, 1) := by decide +kernel
theorem dk_Md_stands1_20 : decode mi_Md_stands1.2.1 20 = .ok (.goto 4, 3) := by decide +kernel
theorem dk_Md_stands1_23 : decode mi_Md_stands1.2.1 23 = .ok (.iconst 0, 1) := by decide +kernel
theorem dk_Md_stands1_24 : decode mi_Md_stands1.2.1 24 = .ok (.iadd, 1) := by decide +kernel
theorem dk_Md_stands1_25 : decode mi_Md_stands1.2.1 25 = .ok (.istore_n 3, 1) := by decide +kernel
theorem dk_Md_stands1_26 : decode mi_Md_stands1.2.1 26 = .ok (.iinc 2 1, 3) := by decide +kernel
theorem dk_Md_stands1_29 : decode mi_Md_stands1.2.1 29 = .ok (.goto (-25), 3) := by decide +kernel
theorem dk_Md_stands1_32 : decode mi_Md_stands1.2.1 32 = .ok (.aload_n 0, 1) := by decide +kernel
theorem dk_Md_stands1_33 : decode mi_Md_stands1.2.1 33 = .ok (.getfield 124, 3) := by decide +kernel
theorem dk_Md_stands1_36 : decode mi_Md_stands1.2.1 36 = .ok (.istore_n 3, 1) := by decide +kernel
theorem dk_Md_stands1_37 : decode mi_Md_stands1.2.1 37 = .ok (.aload_n 0, 1) := by decide +kernel
theorem dk_Md_stands1_38 : decode mi_Md_stands1.2.1 38 = .ok (.getfield 63, 3) := by decide +kernel
theorem dk_Md_stands1_41 : decode mi_Md_stands1.2.1 41 = .ok (.iload_n 2, 1) := by decide +kernel
theorem dk_Md_stands1_42 : decode mi_Md_stands1.2.1 42 = .ok (.iaload, 1) := by decide +kernel
theorem dk_Md_stands1_43 : decode mi_Md_stands1.2.1 43 = .ok (.bipush 32, 2) := by decide +kernel
theorem dk_Md_stands1_45 : decode mi_Md_stands1.2.1 45 = .ok (.if_icmp .le 41, 3) := by decide +kernel
theorem dk_Md_stands1_48 : decode mi_Md_stands1.2.1 48 = .ok (.iload_n 3, 1) := by decide +kernel
theorem dk_Md_stands1_49 : decode mi_Md_stands1.2.1 49 = .ok (.aload_n 0, 1) := by decide +kernel
theorem dk_Md_stands1_50 : decode mi_Md_stands1.2.1 50 = .ok (.getfield 127, 3) := by decide +kernel
theorem dk_Md_stands1_53 : decode mi_Md_stands1.2.1 53 = .ok (.if_icmp .ge 33, 3) := by decide +kernel
theorem dk_Md_stands1_56 : decode mi_Md_stands1.2.1 56 = .ok (.aload_n 0, 1) := by decide +kernel
theorem dk_Md_stands1_57 : decode mi_Md_stands1.2.1 57 = .ok (.getfield 56, 3) := by decide +kernel
theorem dk_Md_stands1_60 : decode mi_Md_stands1.2.1 60 = .ok (.aload_n 0, 1) := by decide +kernel
theorem dk_Md_stands1_61 : decode mi_Md_stands1.2.1 61 = .ok (.getfield 130, 3) := by decide +kernel
theorem dk_Md_stands1_64 : decode mi_Md_stands1.2.1 64 = .ok (.iload_n 3, 1) := by decide +kernel
theorem dk_Md_stands1_65 : decode mi_Md_stands1.2.1 65 = .ok (.iadd, 1) := by decide +kernel
theorem dk_Md_stands1_66 : decode mi_Md_stands1.2.1 66 = .ok (.laload, 1) := by decide +kernel
theorem dk_Md_stands1_67 : decode mi_Md_stands1.2.1 67 = .ok (.l2i, 1) := by decide +kernel
theorem dk_Md_stands1_68 : decode mi_Md_stands1.2.1 68 = .ok (.aload_n 0, 1) := by decide +kernel
theorem dk_Md_stands1_69 : decode mi_Md_stands1.2.1 69 = .ok (.getfield 63, 3) := by decide +kernel
theorem dk_Md_stands1_72 : decode mi_Md_stands1.2.1 72 = .ok (.iload_n 2, 1) := by decide +kernel
theorem dk_Md_stands1_73 : decode mi_Md_stands1.2.1 73 = .ok (.iaload, 1) := by decide +kernel
theorem dk_Md_stands1_74 : decode mi_Md_stands1.2.1 74 = .ok (.if_icmp .ne 12, 3) := by decide +kernel
theorem dk_Md_stands1_77 : decode mi_Md_stands1.2.1 77 = .ok (.iinc 3 1, 3) := by decide +kernel
theorem dk_Md_stands1_80 : decode mi_Md_stands1.2.1 80 = .ok (.iinc 2 1, 3) := by decide +kernel
theorem dk_Md_stands1_83 : decode mi_Md_stands1.2.1 83 = .ok (.goto (-46), 3) := by decide +kernel
theorem dk_Md_stands1_86 : decode mi_Md_stands1.2.1 86 = .ok (.aload_n 0, 1) := by decide +kernel
theorem dk_Md_stands1_87 : decode mi_Md_stands1.2.1 87 = .ok (.getfield 63, 3) := by decide +kernel
theorem dk_Md_stands1_90 : decode mi_Md_stands1.2.1 90 = .ok (.iload_n 2, 1) := by decide +kernel
theorem dk_Md_stands1_91 : decode mi_Md_stands1.2.1 91 = .ok (.iaload, 1) := by decide +kernel
theorem dk_Md_stands1_92 : decode mi_Md_stands1.2.1 92 = .ok (.bipush 32, 2) := by decide +kernel
theorem dk_Md_stands1_94 : decode mi_Md_stands1.2.1 94 = .ok (.if_icmp .gt 7, 3) := by decide +kernel
theorem dk_Md_stands1_97 : decode mi_Md_stands1.2.1 97 = .ok (.iconst 1, 1) := by decide +kernel
theorem dk_Md_stands1_98 : decode mi_Md_stands1.2.1 98 = .ok (.goto 4, 3) := by decide +kernel
theorem dk_Md_stands1_101 : decode mi_Md_stands1.2.1 101 = .ok (.iconst 0, 1) := by decide +kernel
theorem dk_Md_stands1_102 : decode mi_Md_stands1.2.1 102 = .ok (.ireturn, 1) := by decide +kernel
def Md_stands1_l4 (k_32 : Int32 → nm_St → Option (Int32 × nm_St)) : Nat → Int32 → Int32 → Int32 → nm_St → Option (Int32 × nm_St)
  | 0, _, _, _, _ => none
  | n + 1, x1, x2, x3, σ =>
    (if x1 ≤ x3 then
      k_32 x2 σ
    else
      (nm_g (nm_in x2 51) (
      (if (σ.1 84 x2.toNatClampNeg) = 0 then
        (nm_let ((x3 + (1 : Int32))) fun v5 =>
        (Md_stands1_l4 k_32 n) x1 (x2 + (1 : Int32)) v5 σ)
      else
        (nm_let ((x3 + (0 : Int32))) fun v4 =>
        (Md_stands1_l4 k_32 n) x1 (x2 + (1 : Int32)) v4 σ)))))
set_option maxRecDepth 100000 in
set_option maxHeartbeats 4000000 in
theorem r_Md_stands1_l4 (X : nm_X) (F : nm_F) (hF0 : 0 ≤ nm_d F) (k_32 : Int32 → nm_St → Option (Int32 × nm_St)) (hk_32 : ∀ (x2 : Int32) (σ : nm_St), Rn X mi_Md_stands1 F (nm_Qf X F nm_wI) [(0, .ref 70), (2, .int x2)] [] 32 σ (k_32 x2 σ)) : ∀ (n : Nat) (x1 : Int32) (x2 : Int32) (x3 : Int32) (σ : nm_St), Rn X mi_Md_stands1 F (nm_Qf X F nm_wI) [(0, .ref 70), (1, .int x1), (2, .int x2), (3, .int x3)] [] 4 σ (Md_stands1_l4 k_32 n x1 x2 x3 σ) := by
  intro n
  induction n with
  | zero =>
    intro x1 x2 x3 σ
    exact rn_none
  | succ n ih =>
    intro x1 x2 x3 σ
    unfold Md_stands1_l4
    refine rn_iload_n (pc := 4) 3 dk_Md_stands1_4 rfl rfl ?_
    refine rn_iload_n (pc := 5) 1 dk_Md_stands1_5 rfl rfl ?_
    refine rn_icmp_ge (pc := 6) 32 dk_Md_stands1_6 (by decide) (fun c1 => ?_) (fun c1 => ?_)
    · exact rn_sub (by rfl) (hk_32 x2 σ)
    · refine rn_iload_n (pc := 9) 3 dk_Md_stands1_9 rfl rfl ?_
      refine rn_aload_n (pc := 10) 0 dk_Md_stands1_10 rfl rfl rfl ?_
      refine gf_Md_63 (pc := 11) rfl dk_Md_stands1_11 ?_
      refine rn_iload_n (pc := 14) 2 dk_Md_stands1_14 rfl rfl ?_
      refine rn_iaload (pc := 15) rfl dk_Md_stands1_15 (fun g2 => ?_)
      refine rn_if_ne (pc := 16) 23 dk_Md_stands1_16 (by decide) (fun c3 => ?_) (fun c3 => ?_)
      · refine rn_iconst (pc := 23) (0 : Int32) dk_Md_stands1_23 cn_i_0 ?_
        refine rn_iadd (pc := 24) dk_Md_stands1_24 ?_
        refine rn_leti (fun v4 => ?_)
        refine rn_istore_n (pc := 25) 3 dk_Md_stands1_25 rfl rfl rfl ?_
        refine rn_iinc (pc := 26) (1 : Int32) dk_Md_stands1_26 cn_i_1 rfl rfl rfl ?_
        refine rn_goto (pc := 29) 4 dk_Md_stands1_29 (by decide) ?_
        exact rn_sub (by rfl) (ih x1 (x2 + (1 : Int32)) v4 σ)
      · refine rn_iconst (pc := 19) (1 : Int32) dk_Md_stands1_19 cn_i_1 ?_
        refine rn_goto (pc := 20) 24 dk_Md_stands1_20 (by decide) ?_
        refine rn_iadd (pc := 24) dk_Md_stands1_24 ?_
        refine rn_leti (fun v5 => ?_)
        refine rn_istore_n (pc := 25) 3 dk_Md_stands1_25 rfl rfl rfl ?_
        refine rn_iinc (pc := 26) (1 : Int32) dk_Md_stands1_26 cn_i_1 rfl rfl rfl ?_
        refine rn_goto (pc := 29) 4 dk_Md_stands1_29 (by decide) ?_
        exact rn_sub (by rfl) (ih x1 (x2 + (1 : Int32)) v5 σ)
def Md_stands1_l37 (k_86 : Int32 → nm_St → Option (Int32 × nm_St)) : Nat → Int32 → Int32 → nm_St → Option (Int32 × nm_St)
  | 0, _, _, _ => none
  | n + 1, x2, x3, σ =>
    (nm_g (nm_in x2 51) (
    (if (σ.1 84 x2.toNatClampNeg) ≤ (32 : Int32) then
      k_86 x2 σ
    else
      (if (σ.1 70 25) ≤ x3 then
        k_86 x2 σ
      else
        (nm_g (nm_in ((σ.1 70 23) + x3) 1280) (
        (nm_g (nm_in x2 51) (
        (if (Int64.toInt32 (σ.2 82 ((σ.1 70 23) + x3).toNatClampNeg)) = (σ.1 84 x2.toNatClampNeg) then
          (Md_stands1_l37 k_86 n) (x2 + (1 : Int32)) (x3 + (1 : Int32)) σ
        else
          k_86 x2 σ)))))))))
set_option maxRecDepth 100000 in
set_option maxHeartbeats 4000000 in
theorem r_Md_stands1_l37 (X : nm_X) (F : nm_F) (hF0 : 0 ≤ nm_d F) (k_86 : Int32 → nm_St → Option (Int32 × nm_St)) (hk_86 : ∀ (x2 : Int32) (σ : nm_St), Rn X mi_Md_stands1 F (nm_Qf X F nm_wI) [(0, .ref 70), (2, .int x2)] [] 86 σ (k_86 x2 σ)) : ∀ (n : Nat) (x2 : Int32) (x3 : Int32) (σ : nm_St), Rn X mi_Md_stands1 F (nm_Qf X F nm_wI) [(0, .ref 70), (2, .int x2), (3, .int x3)] [] 37 σ (Md_stands1_l37 k_86 n x2 x3 σ) := by
  intro n
  induction n with
  | zero =>
    intro x2 x3 σ
    exact rn_none
  | succ n ih =>
    intro x2 x3 σ
    unfold Md_stands1_l37
    refine rn_aload_n (pc := 37) 0 dk_Md_stands1_37 rfl rfl rfl ?_
    refine gf_Md_63 (pc := 38) rfl dk_Md_stands1_38 ?_
    refine rn_iload_n (pc := 41) 2 dk_Md_stands1_41 rfl rfl ?_
    refine rn_iaload (pc := 42) rfl dk_Md_stands1_42 (fun g8 => ?_)
    refine rn_bipush (pc := 43) (32 : Int32) dk_Md_stands1_43 cn_b_32 ?_
    refine rn_icmp_le (pc := 45) 86 dk_Md_stands1_45 (by decide) (fun c9 => ?_) (fun c9 => ?_)
    · exact rn_sub (by rfl) (hk_86 x2 σ)
    · refine rn_iload_n (pc := 48) 3 dk_Md_stands1_48 rfl rfl ?_
      refine rn_aload_n (pc := 49) 0 dk_Md_stands1_49 rfl rfl rfl ?_
      refine gf_Md_127 (pc := 50) rfl dk_Md_stands1_50 ?_
      refine rn_icmp_ge (pc := 53) 86 dk_Md_stands1_53 (by decide) (fun c10 => ?_) (fun c10 => ?_)
      · exact rn_sub (by rfl) (hk_86 x2 σ)
      · refine rn_aload_n (pc := 56) 0 dk_Md_stands1_56 rfl rfl rfl ?_
        refine gf_Md_56 (pc := 57) rfl dk_Md_stands1_57 ?_
        refine rn_aload_n (pc := 60) 0 dk_Md_stands1_60 rfl rfl rfl ?_
        refine gf_Md_130 (pc := 61) rfl dk_Md_stands1_61 ?_
        refine rn_iload_n (pc := 64) 3 dk_Md_stands1_64 rfl rfl ?_
        refine rn_iadd (pc := 65) dk_Md_stands1_65 ?_
        refine rn_laload (pc := 66) rfl dk_Md_stands1_66 (fun g11 => ?_)
        refine rn_l2i (pc := 67) dk_Md_stands1_67 ?_
        refine rn_aload_n (pc := 68) 0 dk_Md_stands1_68 rfl rfl rfl ?_
        refine gf_Md_63 (pc := 69) rfl dk_Md_stands1_69 ?_
        refine rn_iload_n (pc := 72) 2 dk_Md_stands1_72 rfl rfl ?_
        refine rn_iaload (pc := 73) rfl dk_Md_stands1_73 (fun g12 => ?_)
        refine rn_icmp_ne (pc := 74) 86 dk_Md_stands1_74 (by decide) (fun c13 => ?_) (fun c13 => ?_)
        · exact rn_sub (by rfl) (hk_86 x2 σ)
        · refine rn_iinc (pc := 77) (1 : Int32) dk_Md_stands1_77 cn_i_1 rfl rfl rfl ?_
          refine rn_iinc (pc := 80) (1 : Int32) dk_Md_stands1_80 cn_i_1 rfl rfl rfl ?_
          refine rn_goto (pc := 83) 37 dk_Md_stands1_83 (by decide) ?_
          exact rn_sub (by rfl) (ih (x2 + (1 : Int32)) (x3 + (1 : Int32)) σ)
def Md_stands1_j86 (x2 : Int32) (σ : nm_St) : Option (Int32 × nm_St) :=
  (nm_g (nm_in x2 51) (
  (if (32 : Int32) < (σ.1 84 x2.toNatClampNeg) then
    some ((0 : Int32), σ)
  else
    some ((1 : Int32), σ))))
set_option maxRecDepth 100000 in
set_option maxHeartbeats 4000000 in
theorem r_Md_stands1_j86 (X : nm_X) (F : nm_F) (hF0 : 0 ≤ nm_d F) (x2 : Int32) (σ : nm_St) : Rn X mi_Md_stands1 F (nm_Qf X F nm_wI) [(0, .ref 70), (2, .int x2)] [] 86 σ (Md_stands1_j86 x2 σ) := by
  unfold Md_stands1_j86
  refine rn_aload_n (pc := 86) 0 dk_Md_stands1_86 rfl rfl rfl ?_
  refine gf_Md_63 (pc := 87) rfl dk_Md_stands1_87 ?_
  refine rn_iload_n (pc := 90) 2 dk_Md_stands1_90 rfl rfl ?_
  refine rn_iaload (pc := 91) rfl dk_Md_stands1_91 (fun g16 => ?_)
  refine rn_bipush (pc := 92) (32 : Int32) dk_Md_stands1_92 cn_b_32 ?_
  refine rn_icmp_gt (pc := 94) 101 dk_Md_stands1_94 (by decide) (fun c17 => ?_) (fun c17 => ?_)
  · refine rn_iconst (pc := 101) (0 : Int32) dk_Md_stands1_101 cn_i_0 ?_
    exact rn_zret (ty := .boolean) rfl rfl dk_Md_stands1_102
  · refine rn_iconst (pc := 97) (1 : Int32) dk_Md_stands1_97 cn_i_1 ?_
    refine rn_goto (pc := 98) 102 dk_Md_stands1_98 (by decide) ?_
    exact rn_zret (ty := .boolean) rfl rfl dk_Md_stands1_102
def Md_stands1 (p1 : Int32) (σ : nm_St) : Option (Int32 × nm_St) :=
  Md_stands1_l4 (fun (e7 : Int32) (s6 : nm_St) =>
    Md_stands1_l37 (fun (e15 : Int32) (s14 : nm_St) =>
      Md_stands1_j86 e15 s14) 400 e7 (s6.1 70 24) s6) 400 p1 (0 : Int32) (0 : Int32) σ
set_option maxRecDepth 100000 in
set_option maxHeartbeats 4000000 in
theorem ct_Md_stands1 (X : nm_X) (p1 : Int32) (σ : nm_St) : Ct X mi_Md_stands1 0 nm_wI [.ref 70, .int p1] σ (Md_stands1 p1 σ) := by
  refine Ct.of (by decide +kernel) rfl (fun F hF0 => ?_)
  unfold Md_stands1
  refine rn_iconst (pc := 0) (0 : Int32) dk_Md_stands1_0 cn_i_0 ?_
  refine rn_istore_n (pc := 1) 2 dk_Md_stands1_1 rfl rfl rfl ?_
  refine rn_iconst (pc := 2) (0 : Int32) dk_Md_stands1_2 cn_i_0 ?_
  refine rn_istore_n (pc := 3) 3 dk_Md_stands1_3 rfl rfl rfl ?_
  refine rn_sub (by rfl) (r_Md_stands1_l4 X F hF0 _ (fun e7 s6 => ?_) 400 p1 (0 : Int32) (0 : Int32) σ)
  refine rn_aload_n (pc := 32) 0 dk_Md_stands1_32 rfl rfl rfl ?_
  refine gf_Md_124 (pc := 33) rfl dk_Md_stands1_33 ?_
  refine rn_istore_n (pc := 36) 3 dk_Md_stands1_36 rfl rfl rfl ?_
  refine rn_sub (by rfl) (r_Md_stands1_l37 X F hF0 _ (fun e15 s14 => ?_) 400 e7 (s6.1 70 24) s6)
  exact rn_sub (by rfl) (r_Md_stands1_j86 X F hF0 e15 s14)
theorem dk_Md_word_0 : decode mi_Md_word.2.1 0 = .ok (.iconst 0, 1) := by decide +kernel
theorem dk_Md_word_1 : decode mi_Md_word.2.1 1 = .ok (.istore_n 1, 1) := by decide +kernel
theorem dk_Md_word_2 : decode mi_Md_word.2.1 2 = .ok (.aload_n 0, 1) := by decide +kernel
theorem dk_Md_word_3 : decode mi_Md_word.2.1 3 = .ok (.getfield 124, 3) := by decide +kernel
theorem dk_Md_word_6 : decode mi_Md_word.2.1 6 = .ok (.istore_n 2, 1) := by decide +kernel
theorem dk_Md_word_7 : decode mi_Md_word.2.1 7 = .ok (.iconst 0, 1) := by decide +kernel
theorem dk_Md_word_8 : decode mi_Md_word.2.1 8 = .ok (.istore_n 3, 1) := by decide +kernel
theorem dk_Md_word_9 : decode mi_Md_word.2.1 9 = .ok (.iload_n 3, 1) := by decide +kernel
theorem dk_Md_word_10 : decode mi_Md_word.2.1 10 = .ok (.bipush 8, 2) := by decide +kernel
theorem dk_Md_word_12 : decode mi_Md_word.2.1 12 = .ok (.if_icmp .ge 118, 3) := by decide +kernel
theorem dk_Md_word_15 : decode mi_Md_word.2.1 15 = .ok (.aload_n 0, 1) := by decide +kernel
theorem dk_Md_word_16 : decode mi_Md_word.2.1 16 = .ok (.getfield 124, 3) := by decide +kernel
theorem dk_Md_word_19 : decode mi_Md_word.2.1 19 = .ok (.istore 4, 2) := by decide +kernel
theorem dk_Md_word_21 : decode mi_Md_word.2.1 21 = .ok (.iload_n 1, 1) := by decide +kernel
theorem dk_Md_word_22 : decode mi_Md_word.2.1 22 = .ok (.istore 5, 2) := by decide +kernel
theorem dk_Md_word_24 : decode mi_Md_word.2.1 24 = .ok (.aload_n 0, 1) := by decide +kernel
theorem dk_Md_word_25 : decode mi_Md_word.2.1 25 = .ok (.getfield 63, 3) := by decide +kernel
theorem dk_Md_word_28 : decode mi_Md_word.2.1 28 = .ok (.iload 5, 2) := by decide +kernel
theorem dk_Md_word_30 : decode mi_Md_word.2.1 30 = .ok (.iaload, 1) := by decide +kernel
theorem dk_Md_word_31 : decode mi_Md_word.2.1 31 = .ok (.ifCond .eq 44, 3) := by decide +kernel
theorem dk_Md_word_34 : decode mi_Md_word.2.1 34 = .ok (.iload 4, 2) := by decide +kernel
theorem dk_Md_word_36 : decode mi_Md_word.2.1 36 = .ok (.aload_n 0, 1) := by decide +kernel
theorem dk_Md_word_37 : decode mi_Md_word.2.1 37 = .ok (.getfield 127, 3) := by decide +kernel
theorem dk_Md_word_40 : decode mi_Md_word.2.1 40 = .ok (.if_icmp .ge 35, 3) := by decide +kernel
theorem dk_Md_word_43 : decode mi_Md_word.2.1 43 = .ok (.aload_n 0, 1) := by decide +kernel
theorem dk_Md_word_44 : decode mi_Md_word.2.1 44 = .ok (.getfield 56, 3) := by decide +kernel
theorem dk_Md_word_47 : decode mi_Md_word.2.1 47 = .ok (.aload_n 0, 1) := by decide +kernel
theorem dk_Md_word_48 : decode mi_Md_word.2.1 48 = .ok (.getfield 130, 3) := by decide +kernel
theorem dk_Md_word_51 : decode mi_Md_word.2.1 51 = .ok (.iload 4, 2) := by decide +kernel
theorem dk_Md_word_53 : decode mi_Md_word.2.1 53 = .ok (.iadd, 1) := by decide +kernel
theorem dk_Md_word_54 : decode mi_Md_word.2.1 54 = .ok (.laload, 1) := by decide +kernel
theorem dk_Md_word_55 : decode mi_Md_word.2.1 55 = .ok (.l2i, 1) := by decide +kernel
theorem dk_Md_word_56 : decode mi_Md_word.2.1 56 = .ok (.aload_n 0, 1) := by decide +kernel
theorem dk_Md_word_57 : decode mi_Md_word.2.1 57 = .ok (.getfield 63, 3) := by decide +kernel
theorem dk_Md_word_60 : decode mi_Md_word.2.1 60 = .ok (.iload 5, 2) := by decide +kernel
theorem dk_Md_word_62 : decode mi_Md_word.2.1 62 = .ok (.iaload, 1) := by decide +kernel
theorem dk_Md_word_63 : decode mi_Md_word.2.1 63 = .ok (.if_icmp .ne 12, 3) := by decide +kernel
theorem dk_Md_word_66 : decode mi_Md_word.2.1 66 = .ok (.iinc 4 1, 3) := by decide +kernel
theorem dk_Md_word_69 : decode mi_Md_word.2.1 69 = .ok (.iinc 5 1, 3) := by decide +kernel
theorem dk_Md_word_72 : decode mi_Md_word.2.1 72 = .ok (.goto (-48), 3) := by decide +kernel
theorem dk_Md_word_75 : decode mi_Md_word.2.1 75 = .ok (.aload_n 0, 1) := by decide +kernel
theorem dk_Md_word_76 : decode mi_Md_word.2.1 76 = .ok (.getfield 63, 3) := by decide +kernel
theorem dk_Md_word_79 : decode mi_Md_word.2.1 79 = .ok (.iload 5, 2) := by decide +kernel
theorem dk_Md_word_81 : decode mi_Md_word.2.1 81 = .ok (.iaload, 1) := by decide +kernel
theorem dk_Md_word_82 : decode mi_Md_word.2.1 82 = .ok (.ifCond .ne 11, 3) := by decide +kernel
theorem dk_Md_word_85 : decode mi_Md_word.2.1 85 = .ok (.aload_n 0, 1) := by decide +kernel
theorem dk_Md_word_86 : decode mi_Md_word.2.1 86 = .ok (.iload 4, 2) := by decide +kernel
theorem dk_Md_word_88 : decode mi_Md_word.2.1 88 = .ok (.putfield 124, 3) := by decide +kernel
theorem dk_Md_word_91 : decode mi_Md_word.2.1 91 = .ok (.iload_n 3, 1) := by decide +kernel
theorem dk_Md_word_92 : decode mi_Md_word.2.1 92 = .ok (.ireturn, 1) := by decide +kernel
theorem dk_Md_word_93 : decode mi_Md_word.2.1 93 = .ok (.iload 4, 2) := by decide +kernel
theorem dk_Md_word_95 : decode mi_Md_word.2.1 95 = .ok (.iload_n 2, 1) := by decide +kernel
theorem dk_Md_word_96 : decode mi_Md_word.2.1 96 = .ok (.if_icmp .le 8, 3) := by decide +kernel
theorem dk_Md_word_99 : decode mi_Md_word.2.1 99 = .ok (.iload 4, 2) := by decide +kernel
theorem dk_Md_word_101 : decode mi_Md_word.2.1 101 = .ok (.goto 4, 3) := by decide +kernel
theorem dk_Md_word_104 : decode mi_Md_word.2.1 104 = .ok (.iload_n 2, 1) := by decide +kernel
theorem dk_Md_word_105 : decode mi_Md_word.2.1 105 = .ok (.istore_n 2, 1) := by decide +kernel
theorem dk_Md_word_106 : decode mi_Md_word.2.1 106 = .ok (.aload_n 0, 1) := by decide +kernel
theorem dk_Md_word_107 : decode mi_Md_word.2.1 107 = .ok (.getfield 63, 3) := by decide +kernel
theorem dk_Md_word_110 : decode mi_Md_word.2.1 110 = .ok (.iload_n 1, 1) := by decide +kernel
theorem dk_Md_word_111 : decode mi_Md_word.2.1 111 = .ok (.iaload, 1) := by decide +kernel
theorem dk_Md_word_112 : decode mi_Md_word.2.1 112 = .ok (.ifCond .eq 9, 3) := by decide +kernel
theorem dk_Md_word_115 : decode mi_Md_word.2.1 115 = .ok (.iinc 1 1, 3) := by decide +kernel
theorem dk_Md_word_118 : decode mi_Md_word.2.1 118 = .ok (.goto (-12), 3) := by decide +kernel
theorem dk_Md_word_121 : decode mi_Md_word.2.1 121 = .ok (.iinc 1 1, 3) := by decide +kernel
theorem dk_Md_word_124 : decode mi_Md_word.2.1 124 = .ok (.iinc 3 1, 3) := by decide +kernel
theorem dk_Md_word_127 : decode mi_Md_word.2.1 127 = .ok (.goto (-118), 3) := by decide +kernel
theorem dk_Md_word_130 : decode mi_Md_word.2.1 130 = .ok (.aload_n 0, 1) := by decide +kernel
theorem dk_Md_word_131 : decode mi_Md_word.2.1 131 = .ok (.iload_n 2, 1) := by decide +kernel
theorem dk_Md_word_132 : decode mi_Md_word.2.1 132 = .ok (.putfield 121, 3) := by decide +kernel
theorem dk_Md_word_135 : decode mi_Md_word.2.1 135 = .ok (.iconst (-1), 1) := by decide +kernel
theorem dk_Md_word_136 : decode mi_Md_word.2.1 136 = .ok (.ireturn, 1) := by decide +kernel
def Md_word_l24 (k_75 : Int32 → Int32 → Int32 → Int32 → Int32 → nm_St → Option (Int32 × nm_St)) : Nat → Int32 → Int32 → Int32 → Int32 → Int32 → nm_St → Option (Int32 × nm_St)
  | 0, _, _, _, _, _, _ => none
  | n + 1, x1, x2, x3, x4, x5, σ =>
    (nm_g (nm_in x5 51) (
    (if (σ.1 84 x5.toNatClampNeg) = 0 then
      k_75 x1 x2 x3 x4 x5 σ
    else
      (if (σ.1 70 25) ≤ x4 then
        k_75 x1 x2 x3 x4 x5 σ
      else
        (nm_g (nm_in ((σ.1 70 23) + x4) 1280) (
        (nm_g (nm_in x5 51) (
        (if (Int64.toInt32 (σ.2 82 ((σ.1 70 23) + x4).toNatClampNeg)) = (σ.1 84 x5.toNatClampNeg) then
          (Md_word_l24 k_75 n) x1 x2 x3 (x4 + (1 : Int32)) (x5 + (1 : Int32)) σ
        else
          k_75 x1 x2 x3 x4 x5 σ)))))))))
set_option maxRecDepth 100000 in
set_option maxHeartbeats 4000000 in
theorem r_Md_word_l24 (X : nm_X) (F : nm_F) (hF0 : 0 ≤ nm_d F) (k_75 : Int32 → Int32 → Int32 → Int32 → Int32 → nm_St → Option (Int32 × nm_St)) (hk_75 : ∀ (x1 : Int32) (x2 : Int32) (x3 : Int32) (x4 : Int32) (x5 : Int32) (σ : nm_St), Rn X mi_Md_word F (nm_Qf X F nm_wI) [(0, .ref 70), (1, .int x1), (2, .int x2), (3, .int x3), (4, .int x4), (5, .int x5)] [] 75 σ (k_75 x1 x2 x3 x4 x5 σ)) : ∀ (n : Nat) (x1 : Int32) (x2 : Int32) (x3 : Int32) (x4 : Int32) (x5 : Int32) (σ : nm_St), Rn X mi_Md_word F (nm_Qf X F nm_wI) [(0, .ref 70), (1, .int x1), (2, .int x2), (3, .int x3), (4, .int x4), (5, .int x5)] [] 24 σ (Md_word_l24 k_75 n x1 x2 x3 x4 x5 σ) := by
  intro n
  induction n with
  | zero =>
    intro x1 x2 x3 x4 x5 σ
    exact rn_none
  | succ n ih =>
    intro x1 x2 x3 x4 x5 σ
    unfold Md_word_l24
    refine rn_aload_n (pc := 24) 0 dk_Md_word_24 rfl rfl rfl ?_
    refine gf_Md_63 (pc := 25) rfl dk_Md_word_25 ?_
    refine rn_iload (pc := 28) dk_Md_word_28 rfl ?_
    refine rn_iaload (pc := 30) rfl dk_Md_word_30 (fun g2 => ?_)
    refine rn_if_eq (pc := 31) 75 dk_Md_word_31 (by decide) (fun c3 => ?_) (fun c3 => ?_)
    · exact rn_sub (by rfl) (hk_75 x1 x2 x3 x4 x5 σ)
    · refine rn_iload (pc := 34) dk_Md_word_34 rfl ?_
      refine rn_aload_n (pc := 36) 0 dk_Md_word_36 rfl rfl rfl ?_
      refine gf_Md_127 (pc := 37) rfl dk_Md_word_37 ?_
      refine rn_icmp_ge (pc := 40) 75 dk_Md_word_40 (by decide) (fun c4 => ?_) (fun c4 => ?_)
      · exact rn_sub (by rfl) (hk_75 x1 x2 x3 x4 x5 σ)
      · refine rn_aload_n (pc := 43) 0 dk_Md_word_43 rfl rfl rfl ?_
        refine gf_Md_56 (pc := 44) rfl dk_Md_word_44 ?_
        refine rn_aload_n (pc := 47) 0 dk_Md_word_47 rfl rfl rfl ?_
        refine gf_Md_130 (pc := 48) rfl dk_Md_word_48 ?_
        refine rn_iload (pc := 51) dk_Md_word_51 rfl ?_
        refine rn_iadd (pc := 53) dk_Md_word_53 ?_
        refine rn_laload (pc := 54) rfl dk_Md_word_54 (fun g5 => ?_)
        refine rn_l2i (pc := 55) dk_Md_word_55 ?_
        refine rn_aload_n (pc := 56) 0 dk_Md_word_56 rfl rfl rfl ?_
        refine gf_Md_63 (pc := 57) rfl dk_Md_word_57 ?_
        refine rn_iload (pc := 60) dk_Md_word_60 rfl ?_
        refine rn_iaload (pc := 62) rfl dk_Md_word_62 (fun g6 => ?_)
        refine rn_icmp_ne (pc := 63) 75 dk_Md_word_63 (by decide) (fun c7 => ?_) (fun c7 => ?_)
        · exact rn_sub (by rfl) (hk_75 x1 x2 x3 x4 x5 σ)
        · refine rn_iinc (pc := 66) (1 : Int32) dk_Md_word_66 cn_i_1 rfl rfl rfl ?_
          refine rn_iinc (pc := 69) (1 : Int32) dk_Md_word_69 cn_i_1 rfl rfl rfl ?_
          refine rn_goto (pc := 72) 24 dk_Md_word_72 (by decide) ?_
          exact rn_sub (by rfl) (ih x1 x2 x3 (x4 + (1 : Int32)) (x5 + (1 : Int32)) σ)
def Md_word_l106 (k_121 : Int32 → Int32 → Int32 → nm_St → Option (Int32 × nm_St)) : Nat → Int32 → Int32 → Int32 → nm_St → Option (Int32 × nm_St)
  | 0, _, _, _, _ => none
  | n + 1, x1, x2, x3, σ =>
    (nm_g (nm_in x1 51) (
    (if (σ.1 84 x1.toNatClampNeg) = 0 then
      k_121 x1 x2 x3 σ
    else
      (Md_word_l106 k_121 n) (x1 + (1 : Int32)) x2 x3 σ)))
set_option maxRecDepth 100000 in
set_option maxHeartbeats 4000000 in
theorem r_Md_word_l106 (X : nm_X) (F : nm_F) (hF0 : 0 ≤ nm_d F) (k_121 : Int32 → Int32 → Int32 → nm_St → Option (Int32 × nm_St)) (hk_121 : ∀ (x1 : Int32) (x2 : Int32) (x3 : Int32) (σ : nm_St), Rn X mi_Md_word F (nm_Qf X F nm_wI) [(0, .ref 70), (1, .int x1), (2, .int x2), (3, .int x3)] [] 121 σ (k_121 x1 x2 x3 σ)) : ∀ (n : Nat) (x1 : Int32) (x2 : Int32) (x3 : Int32) (σ : nm_St), Rn X mi_Md_word F (nm_Qf X F nm_wI) [(0, .ref 70), (1, .int x1), (2, .int x2), (3, .int x3)] [] 106 σ (Md_word_l106 k_121 n x1 x2 x3 σ) := by
  intro n
  induction n with
  | zero =>
    intro x1 x2 x3 σ
    exact rn_none
  | succ n ih =>
    intro x1 x2 x3 σ
    unfold Md_word_l106
    refine rn_aload_n (pc := 106) 0 dk_Md_word_106 rfl rfl rfl ?_
    refine gf_Md_63 (pc := 107) rfl dk_Md_word_107 ?_
    refine rn_iload_n (pc := 110) 1 dk_Md_word_110 rfl rfl ?_
    refine rn_iaload (pc := 111) rfl dk_Md_word_111 (fun g17 => ?_)
    refine rn_if_eq (pc := 112) 121 dk_Md_word_112 (by decide) (fun c18 => ?_) (fun c18 => ?_)
    · exact rn_sub (by rfl) (hk_121 x1 x2 x3 σ)
    · refine rn_iinc (pc := 115) (1 : Int32) dk_Md_word_115 cn_i_1 rfl rfl rfl ?_
      refine rn_goto (pc := 118) 106 dk_Md_word_118 (by decide) ?_
      exact rn_sub (by rfl) (ih (x1 + (1 : Int32)) x2 x3 σ)
def Md_word_j105 (k_9 : Int32 → Int32 → Int32 → nm_St → Option (Int32 × nm_St)) (x1 : Int32) (x3 : Int32) (y0 : Int32) (σ : nm_St) : Option (Int32 × nm_St) :=
  Md_word_l106 (fun (e20 : Int32) (e21 : Int32) (e22 : Int32) (s19 : nm_St) =>
    k_9 (e20 + (1 : Int32)) e21 (e22 + (1 : Int32)) s19) 400 x1 y0 x3 σ
set_option maxRecDepth 100000 in
set_option maxHeartbeats 4000000 in
theorem r_Md_word_j105 (X : nm_X) (F : nm_F) (hF0 : 0 ≤ nm_d F) (k_9 : Int32 → Int32 → Int32 → nm_St → Option (Int32 × nm_St)) (hk_9 : ∀ (x1 : Int32) (x2 : Int32) (x3 : Int32) (σ : nm_St), Rn X mi_Md_word F (nm_Qf X F nm_wI) [(0, .ref 70), (1, .int x1), (2, .int x2), (3, .int x3)] [] 9 σ (k_9 x1 x2 x3 σ)) (x1 : Int32) (x3 : Int32) (y0 : Int32) (σ : nm_St) : Rn X mi_Md_word F (nm_Qf X F nm_wI) [(0, .ref 70), (1, .int x1), (3, .int x3)] [.int y0] 105 σ (Md_word_j105 k_9 x1 x3 y0 σ) := by
  unfold Md_word_j105
  refine rn_istore_n (pc := 105) 2 dk_Md_word_105 rfl rfl rfl ?_
  refine rn_sub (by rfl) (r_Md_word_l106 X F hF0 _ (fun e20 e21 e22 s19 => ?_) 400 x1 y0 x3 σ)
  refine rn_iinc (pc := 121) (1 : Int32) dk_Md_word_121 cn_i_1 rfl rfl rfl ?_
  refine rn_iinc (pc := 124) (1 : Int32) dk_Md_word_124 cn_i_1 rfl rfl rfl ?_
  refine rn_goto (pc := 127) 9 dk_Md_word_127 (by decide) ?_
  exact rn_sub (by rfl) (hk_9 (e20 + (1 : Int32)) e21 (e22 + (1 : Int32)) s19)
def Md_word_j75 (k_9 : Int32 → Int32 → Int32 → nm_St → Option (Int32 × nm_St)) (x1 : Int32) (x2 : Int32) (x3 : Int32) (x4 : Int32) (x5 : Int32) (σ : nm_St) : Option (Int32 × nm_St) :=
  (nm_g (nm_in x5 51) (
  (if (σ.1 84 x5.toNatClampNeg) = 0 then
    (nm_let (nm_pI σ 70 24 x4) fun s23 =>
    some (x3, s23))
  else
    (if x4 ≤ x2 then
      Md_word_j105 k_9 x1 x3 x2 σ
    else
      Md_word_j105 k_9 x1 x3 x4 σ))))
set_option maxRecDepth 100000 in
set_option maxHeartbeats 4000000 in
theorem r_Md_word_j75 (X : nm_X) (F : nm_F) (hF0 : 0 ≤ nm_d F) (k_9 : Int32 → Int32 → Int32 → nm_St → Option (Int32 × nm_St)) (hk_9 : ∀ (x1 : Int32) (x2 : Int32) (x3 : Int32) (σ : nm_St), Rn X mi_Md_word F (nm_Qf X F nm_wI) [(0, .ref 70), (1, .int x1), (2, .int x2), (3, .int x3)] [] 9 σ (k_9 x1 x2 x3 σ)) (x1 : Int32) (x2 : Int32) (x3 : Int32) (x4 : Int32) (x5 : Int32) (σ : nm_St) : Rn X mi_Md_word F (nm_Qf X F nm_wI) [(0, .ref 70), (1, .int x1), (2, .int x2), (3, .int x3), (4, .int x4), (5, .int x5)] [] 75 σ (Md_word_j75 k_9 x1 x2 x3 x4 x5 σ) := by
  unfold Md_word_j75
  refine rn_aload_n (pc := 75) 0 dk_Md_word_75 rfl rfl rfl ?_
  refine gf_Md_63 (pc := 76) rfl dk_Md_word_76 ?_
  refine rn_iload (pc := 79) dk_Md_word_79 rfl ?_
  refine rn_iaload (pc := 81) rfl dk_Md_word_81 (fun g14 => ?_)
  refine rn_if_ne (pc := 82) 93 dk_Md_word_82 (by decide) (fun c15 => ?_) (fun c15 => ?_)
  · refine rn_iload (pc := 93) dk_Md_word_93 rfl ?_
    refine rn_iload_n (pc := 95) 2 dk_Md_word_95 rfl rfl ?_
    refine rn_icmp_le (pc := 96) 104 dk_Md_word_96 (by decide) (fun c16 => ?_) (fun c16 => ?_)
    · refine rn_iload_n (pc := 104) 2 dk_Md_word_104 rfl rfl ?_
      exact rn_sub (by rfl) (r_Md_word_j105 X F hF0 _ hk_9 x1 x3 x2 σ)
    · refine rn_iload (pc := 99) dk_Md_word_99 rfl ?_
      refine rn_goto (pc := 101) 105 dk_Md_word_101 (by decide) ?_
      exact rn_sub (by rfl) (r_Md_word_j105 X F hF0 _ hk_9 x1 x3 x4 σ)
  · refine rn_aload_n (pc := 85) 0 dk_Md_word_85 rfl rfl rfl ?_
    refine rn_iload (pc := 86) dk_Md_word_86 rfl ?_
    refine pf_Md_124 (pc := 88) rfl dk_Md_word_88 ?_
    refine rn_lets (fun s23 => ?_)
    refine rn_iload_n (pc := 91) 3 dk_Md_word_91 rfl rfl ?_
    exact rn_iret rfl dk_Md_word_92
def Md_word_l9 (k_130 : Int32 → nm_St → Option (Int32 × nm_St)) : Nat → Int32 → Int32 → Int32 → nm_St → Option (Int32 × nm_St)
  | 0, _, _, _, _ => none
  | n + 1, x1, x2, x3, σ =>
    (if (8 : Int32) ≤ x3 then
      k_130 x2 σ
    else
      Md_word_l24 (fun (e9 : Int32) (e10 : Int32) (e11 : Int32) (e12 : Int32) (e13 : Int32) (s8 : nm_St) =>
        Md_word_j75 (Md_word_l9 k_130 n) e9 e10 e11 e12 e13 s8) 400 x1 x2 x3 (σ.1 70 24) x1 σ)
set_option maxRecDepth 100000 in
set_option maxHeartbeats 4000000 in
theorem r_Md_word_l9 (X : nm_X) (F : nm_F) (hF0 : 0 ≤ nm_d F) (k_130 : Int32 → nm_St → Option (Int32 × nm_St)) (hk_130 : ∀ (x2 : Int32) (σ : nm_St), Rn X mi_Md_word F (nm_Qf X F nm_wI) [(0, .ref 70), (2, .int x2)] [] 130 σ (k_130 x2 σ)) : ∀ (n : Nat) (x1 : Int32) (x2 : Int32) (x3 : Int32) (σ : nm_St), Rn X mi_Md_word F (nm_Qf X F nm_wI) [(0, .ref 70), (1, .int x1), (2, .int x2), (3, .int x3)] [] 9 σ (Md_word_l9 k_130 n x1 x2 x3 σ) := by
  intro n
  induction n with
  | zero =>
    intro x1 x2 x3 σ
    exact rn_none
  | succ n ih =>
    intro x1 x2 x3 σ
    unfold Md_word_l9
    refine rn_iload_n (pc := 9) 3 dk_Md_word_9 rfl rfl ?_
    refine rn_bipush (pc := 10) (8 : Int32) dk_Md_word_10 cn_b_8 ?_
    refine rn_icmp_ge (pc := 12) 130 dk_Md_word_12 (by decide) (fun c1 => ?_) (fun c1 => ?_)
    · exact rn_sub (by rfl) (hk_130 x2 σ)
    · refine rn_aload_n (pc := 15) 0 dk_Md_word_15 rfl rfl rfl ?_
      refine gf_Md_124 (pc := 16) rfl dk_Md_word_16 ?_
      refine rn_istore (pc := 19) dk_Md_word_19 rfl rfl ?_
      refine rn_iload_n (pc := 21) 1 dk_Md_word_21 rfl rfl ?_
      refine rn_istore (pc := 22) dk_Md_word_22 rfl rfl ?_
      refine rn_sub (by rfl) (r_Md_word_l24 X F hF0 _ (fun e9 e10 e11 e12 e13 s8 => ?_) 400 x1 x2 x3 (σ.1 70 24) x1 σ)
      exact rn_sub (by rfl) (r_Md_word_j75 X F hF0 _ ih e9 e10 e11 e12 e13 s8)
def Md_word (σ : nm_St) : Option (Int32 × nm_St) :=
  Md_word_l9 (fun (e25 : Int32) (s24 : nm_St) =>
    (nm_let (nm_pI s24 70 27 e25) fun s26 =>
    some ((-1 : Int32), s26))) 400 (0 : Int32) (σ.1 70 24) (0 : Int32) σ
set_option maxRecDepth 100000 in
set_option maxHeartbeats 4000000 in
theorem ct_Md_word (X : nm_X) (σ : nm_St) : Ct X mi_Md_word 0 nm_wI [.ref 70] σ (Md_word σ) := by
  refine Ct.of (by decide +kernel) rfl (fun F hF0 => ?_)
  unfold Md_word
  refine rn_iconst (pc := 0) (0 : Int32) dk_Md_word_0 cn_i_0 ?_
  refine rn_istore_n (pc := 1) 1 dk_Md_word_1 rfl rfl rfl ?_
  refine rn_aload_n (pc := 2) 0 dk_Md_word_2 rfl rfl rfl ?_
  refine gf_Md_124 (pc := 3) rfl dk_Md_word_3 ?_
  refine rn_istore_n (pc := 6) 2 dk_Md_word_6 rfl rfl rfl ?_
  refine rn_iconst (pc := 7) (0 : Int32) dk_Md_word_7 cn_i_0 ?_
  refine rn_istore_n (pc := 8) 3 dk_Md_word_8 rfl rfl rfl ?_
  refine rn_sub (by rfl) (r_Md_word_l9 X F hF0 _ (fun e25 s24 => ?_) 400 (0 : Int32) (σ.1 70 24) (0 : Int32) σ)
  refine rn_aload_n (pc := 130) 0 dk_Md_word_130 rfl rfl rfl ?_
  refine rn_iload_n (pc := 131) 2 dk_Md_word_131 rfl rfl ?_
  refine pf_Md_121 (pc := 132) rfl dk_Md_word_132 ?_
  refine rn_lets (fun s26 => ?_)
  refine rn_iconst (pc := 135) (-1 : Int32) dk_Md_word_135 cn_i_m1 ?_
  exact rn_iret rfl dk_Md_word_136
theorem dk_Md_item_0 : decode mi_Md_item.2.1 0 = .ok (.aload_n 0, 1) := by decide +kernel
theorem dk_Md_item_1 : decode mi_Md_item.2.1 1 = .ok (.iconst 1, 1) := by decide +kernel
theorem dk_Md_item_2 : decode mi_Md_item.2.1 2 = .ok (.invokevirtual 143, 3) := by decide +kernel
theorem dk_Md_item_5 : decode mi_Md_item.2.1 5 = .ok (.ifCond .eq 21, 3) := by decide +kernel
theorem dk_Md_item_8 : decode mi_Md_item.2.1 8 = .ok (.aload_n 0, 1) := by decide +kernel
theorem dk_Md_item_9 : decode mi_Md_item.2.1 9 = .ok (.getfield 90, 3) := by decide +kernel
theorem dk_Md_item_12 : decode mi_Md_item.2.1 12 = .ok (.bipush 8, 2) := by decide +kernel
theorem dk_Md_item_14 : decode mi_Md_item.2.1 14 = .ok (.if_icmp .ne 12, 3) := by decide +kernel
theorem dk_Md_item_17 : decode mi_Md_item.2.1 17 = .ok (.aload_n 0, 1) := by decide +kernel
theorem dk_Md_item_18 : decode mi_Md_item.2.1 18 = .ok (.aload_n 0, 1) := by decide +kernel
theorem dk_Md_item_19 : decode mi_Md_item.2.1 19 = .ok (.getfield 124, 3) := by decide +kernel
theorem dk_Md_item_22 : decode mi_Md_item.2.1 22 = .ok (.invokevirtual 140, 3) := by decide +kernel
theorem dk_Md_item_25 : decode mi_Md_item.2.1 25 = .ok (.ireturn, 1) := by decide +kernel
theorem dk_Md_item_26 : decode mi_Md_item.2.1 26 = .ok (.aload_n 0, 1) := by decide +kernel
theorem dk_Md_item_27 : decode mi_Md_item.2.1 27 = .ok (.invokevirtual 146, 3) := by decide +kernel
theorem dk_Md_item_30 : decode mi_Md_item.2.1 30 = .ok (.istore_n 1, 1) := by decide +kernel
theorem dk_Md_item_31 : decode mi_Md_item.2.1 31 = .ok (.iload_n 1, 1) := by decide +kernel
theorem dk_Md_item_32 : decode mi_Md_item.2.1 32 = .ok (.iconst (-1), 1) := by decide +kernel
theorem dk_Md_item_33 : decode mi_Md_item.2.1 33 = .ok (.if_icmp .ne 5, 3) := by decide +kernel
theorem dk_Md_item_36 : decode mi_Md_item.2.1 36 = .ok (.iconst 0, 1) := by decide +kernel
theorem dk_Md_item_37 : decode mi_Md_item.2.1 37 = .ok (.ireturn, 1) := by decide +kernel
theorem dk_Md_item_38 : decode mi_Md_item.2.1 38 = .ok (.iconst 0, 1) := by decide +kernel
theorem dk_Md_item_39 : decode mi_Md_item.2.1 39 = .ok (.istore_n 2, 1) := by decide +kernel
theorem dk_Md_item_40 : decode mi_Md_item.2.1 40 = .ok (.iload_n 2, 1) := by decide +kernel
theorem dk_Md_item_41 : decode mi_Md_item.2.1 41 = .ok (.aload_n 0, 1) := by decide +kernel
theorem dk_Md_item_42 : decode mi_Md_item.2.1 42 = .ok (.getfield 66, 3) := by decide +kernel
theorem dk_Md_item_45 : decode mi_Md_item.2.1 45 = .ok (.iload_n 1, 1) := by decide +kernel
theorem dk_Md_item_46 : decode mi_Md_item.2.1 46 = .ok (.iaload, 1) := by decide +kernel
theorem dk_Md_item_47 : decode mi_Md_item.2.1 47 = .ok (.if_icmp .ge 102, 3) := by decide +kernel
theorem dk_Md_item_50 : decode mi_Md_item.2.1 50 = .ok (.iload_n 2, 1) := by decide +kernel
theorem dk_Md_item_51 : decode mi_Md_item.2.1 51 = .ok (.ifCond .le 53, 3) := by decide +kernel
theorem dk_Md_item_54 : decode mi_Md_item.2.1 54 = .ok (.aload_n 0, 1) := by decide +kernel
theorem dk_Md_item_55 : decode mi_Md_item.2.1 55 = .ok (.getfield 124, 3) := by decide +kernel
theorem dk_Md_item_58 : decode mi_Md_item.2.1 58 = .ok (.aload_n 0, 1) := by decide +kernel
theorem dk_Md_item_59 : decode mi_Md_item.2.1 59 = .ok (.getfield 127, 3) := by decide +kernel
theorem dk_Md_item_62 : decode mi_Md_item.2.1 62 = .ok (.if_icmp .ge 23, 3) := by decide +kernel
theorem dk_Md_item_65 : decode mi_Md_item.2.1 65 = .ok (.aload_n 0, 1) := by decide +kernel
theorem dk_Md_item_66 : decode mi_Md_item.2.1 66 = .ok (.getfield 56, 3) := by decide +kernel
theorem dk_Md_item_69 : decode mi_Md_item.2.1 69 = .ok (.aload_n 0, 1) := by decide +kernel
theorem dk_Md_item_70 : decode mi_Md_item.2.1 70 = .ok (.getfield 130, 3) := by decide +kernel
theorem dk_Md_item_73 : decode mi_Md_item.2.1 73 = .ok (.aload_n 0, 1) := by decide +kernel
theorem dk_Md_item_74 : decode mi_Md_item.2.1 74 = .ok (.getfield 124, 3) := by decide +kernel
theorem dk_Md_item_77 : decode mi_Md_item.2.1 77 = .ok (.iadd, 1) := by decide +kernel
theorem dk_Md_item_78 : decode mi_Md_item.2.1 78 = .ok (.laload, 1) := by decide +kernel
theorem dk_Md_item_79 : decode mi_Md_item.2.1 79 = .ok (.l2i, 1) := by decide +kernel
theorem dk_Md_item_80 : decode mi_Md_item.2.1 80 = .ok (.bipush 32, 2) := by decide +kernel
theorem dk_Md_item_82 : decode mi_Md_item.2.1 82 = .ok (.if_icmp .eq 12, 3) := by decide +kernel
theorem dk_Md_item_85 : decode mi_Md_item.2.1 85 = .ok (.aload_n 0, 1) := by decide +kernel
theorem dk_Md_item_86 : decode mi_Md_item.2.1 86 = .ok (.aload_n 0, 1) := by decide +kernel
theorem dk_Md_item_87 : decode mi_Md_item.2.1 87 = .ok (.getfield 124, 3) := by decide +kernel
theorem dk_Md_item_90 : decode mi_Md_item.2.1 90 = .ok (.invokevirtual 140, 3) := by decide +kernel
theorem dk_Md_item_93 : decode mi_Md_item.2.1 93 = .ok (.ireturn, 1) := by decide +kernel
theorem dk_Md_item_94 : decode mi_Md_item.2.1 94 = .ok (.aload_n 0, 1) := by decide +kernel
theorem dk_Md_item_95 : decode mi_Md_item.2.1 95 = .ok (.dup, 1) := by decide +kernel
theorem dk_Md_item_96 : decode mi_Md_item.2.1 96 = .ok (.getfield 124, 3) := by decide +kernel
theorem dk_Md_item_99 : decode mi_Md_item.2.1 99 = .ok (.iconst 1, 1) := by decide +kernel
theorem dk_Md_item_100 : decode mi_Md_item.2.1 100 = .ok (.iadd, 1) := by decide +kernel
theorem dk_Md_item_101 : decode mi_Md_item.2.1 101 = .ok (.putfield 124, 3) := by decide +kernel
theorem dk_Md_item_104 : decode mi_Md_item.2.1 104 = .ok (.aload_n 0, 1) := by decide +kernel
theorem dk_Md_item_105 : decode mi_Md_item.2.1 105 = .ok (.getfield 124, 3) := by decide +kernel
theorem dk_Md_item_108 : decode mi_Md_item.2.1 108 = .ok (.istore_n 3, 1) := by decide +kernel
theorem dk_Md_item_109 : decode mi_Md_item.2.1 109 = .ok (.aload_n 0, 1) := by decide +kernel
theorem dk_Md_item_110 : decode mi_Md_item.2.1 110 = .ok (.invokevirtual 150, 3) := by decide +kernel
theorem dk_Md_item_113 : decode mi_Md_item.2.1 113 = .ok (.ifCond .ne 5, 3) := by decide +kernel
theorem dk_Md_item_116 : decode mi_Md_item.2.1 116 = .ok (.iconst 0, 1) := by decide +kernel
theorem dk_Md_item_117 : decode mi_Md_item.2.1 117 = .ok (.ireturn, 1) := by decide +kernel
theorem dk_Md_item_118 : decode mi_Md_item.2.1 118 = .ok (.aload_n 0, 1) := by decide +kernel
theorem dk_Md_item_119 : decode mi_Md_item.2.1 119 = .ok (.iload_n 1, 1) := by decide +kernel
theorem dk_Md_item_120 : decode mi_Md_item.2.1 120 = .ok (.iload_n 2, 1) := by decide +kernel
theorem dk_Md_item_121 : decode mi_Md_item.2.1 121 = .ok (.invokevirtual 153, 3) := by decide +kernel
theorem dk_Md_item_124 : decode mi_Md_item.2.1 124 = .ok (.ifCond .ne 9, 3) := by decide +kernel
theorem dk_Md_item_127 : decode mi_Md_item.2.1 127 = .ok (.aload_n 0, 1) := by decide +kernel
theorem dk_Md_item_128 : decode mi_Md_item.2.1 128 = .ok (.iload_n 3, 1) := by decide +kernel
theorem dk_Md_item_129 : decode mi_Md_item.2.1 129 = .ok (.invokevirtual 140, 3) := by decide +kernel
theorem dk_Md_item_132 : decode mi_Md_item.2.1 132 = .ok (.ireturn, 1) := by decide +kernel
theorem dk_Md_item_133 : decode mi_Md_item.2.1 133 = .ok (.aload_n 0, 1) := by decide +kernel
theorem dk_Md_item_134 : decode mi_Md_item.2.1 134 = .ok (.getfield 69, 3) := by decide +kernel
theorem dk_Md_item_137 : decode mi_Md_item.2.1 137 = .ok (.iload_n 2, 1) := by decide +kernel
theorem dk_Md_item_138 : decode mi_Md_item.2.1 138 = .ok (.aload_n 0, 1) := by decide +kernel
theorem dk_Md_item_139 : decode mi_Md_item.2.1 139 = .ok (.getfield 133, 3) := by decide +kernel
theorem dk_Md_item_142 : decode mi_Md_item.2.1 142 = .ok (.iastore, 1) := by decide +kernel
theorem dk_Md_item_143 : decode mi_Md_item.2.1 143 = .ok (.iinc 2 1, 3) := by decide +kernel
theorem dk_Md_item_146 : decode mi_Md_item.2.1 146 = .ok (.goto (-106), 3) := by decide +kernel
theorem dk_Md_item_149 : decode mi_Md_item.2.1 149 = .ok (.iload_n 1, 1) := by decide +kernel
theorem dk_Md_item_150 : decode mi_Md_item.2.1 150 = .ok (.tableswitch 167 0 6 #[42, 55, 81, 106, 126, 139, 152], 42) := by decide +kernel
theorem dk_Md_item_192 : decode mi_Md_item.2.1 192 = .ok (.aload_n 0, 1) := by decide +kernel
theorem dk_Md_item_193 : decode mi_Md_item.2.1 193 = .ok (.aload_n 0, 1) := by decide +kernel
theorem dk_Md_item_194 : decode mi_Md_item.2.1 194 = .ok (.getfield 69, 3) := by decide +kernel
theorem dk_Md_item_197 : decode mi_Md_item.2.1 197 = .ok (.iconst 0, 1) := by decide +kernel
theorem dk_Md_item_198 : decode mi_Md_item.2.1 198 = .ok (.iaload, 1) := by decide +kernel
theorem dk_Md_item_199 : decode mi_Md_item.2.1 199 = .ok (.putfield 7, 3) := by decide +kernel
theorem dk_Md_item_202 : decode mi_Md_item.2.1 202 = .ok (.goto 127, 3) := by decide +kernel
theorem dk_Md_item_205 : decode mi_Md_item.2.1 205 = .ok (.aload_n 0, 1) := by decide +kernel
theorem dk_Md_item_206 : decode mi_Md_item.2.1 206 = .ok (.aload_n 0, 1) := by decide +kernel
theorem dk_Md_item_207 : decode mi_Md_item.2.1 207 = .ok (.getfield 69, 3) := by decide +kernel
theorem dk_Md_item_210 : decode mi_Md_item.2.1 210 = .ok (.iconst 0, 1) := by decide +kernel
theorem dk_Md_item_211 : decode mi_Md_item.2.1 211 = .ok (.iaload, 1) := by decide +kernel
theorem dk_Md_item_212 : decode mi_Md_item.2.1 212 = .ok (.aload_n 0, 1) := by decide +kernel
theorem dk_Md_item_213 : decode mi_Md_item.2.1 213 = .ok (.getfield 69, 3) := by decide +kernel
theorem dk_Md_item_216 : decode mi_Md_item.2.1 216 = .ok (.iconst 1, 1) := by decide +kernel
theorem dk_Md_item_217 : decode mi_Md_item.2.1 217 = .ok (.iaload, 1) := by decide +kernel
theorem dk_Md_item_218 : decode mi_Md_item.2.1 218 = .ok (.aload_n 0, 1) := by decide +kernel
theorem dk_Md_item_219 : decode mi_Md_item.2.1 219 = .ok (.getfield 69, 3) := by decide +kernel
theorem dk_Md_item_222 : decode mi_Md_item.2.1 222 = .ok (.iconst 2, 1) := by decide +kernel
theorem dk_Md_item_223 : decode mi_Md_item.2.1 223 = .ok (.iaload, 1) := by decide +kernel
theorem dk_Md_item_224 : decode mi_Md_item.2.1 224 = .ok (.invokevirtual 110, 3) := by decide +kernel
theorem dk_Md_item_227 : decode mi_Md_item.2.1 227 = .ok (.pop, 1) := by decide +kernel
theorem dk_Md_item_228 : decode mi_Md_item.2.1 228 = .ok (.goto 101, 3) := by decide +kernel
theorem dk_Md_item_231 : decode mi_Md_item.2.1 231 = .ok (.aload_n 0, 1) := by decide +kernel
theorem dk_Md_item_232 : decode mi_Md_item.2.1 232 = .ok (.getfield 35, 3) := by decide +kernel
theorem dk_Md_item_235 : decode mi_Md_item.2.1 235 = .ok (.aload_n 0, 1) := by decide +kernel
theorem dk_Md_item_236 : decode mi_Md_item.2.1 236 = .ok (.getfield 69, 3) := by decide +kernel
theorem dk_Md_item_239 : decode mi_Md_item.2.1 239 = .ok (.iconst 0, 1) := by decide +kernel
theorem dk_Md_item_240 : decode mi_Md_item.2.1 240 = .ok (.iaload, 1) := by decide +kernel
theorem dk_Md_item_241 : decode mi_Md_item.2.1 241 = .ok (.dup2, 1) := by decide +kernel
theorem dk_Md_item_242 : decode mi_Md_item.2.1 242 = .ok (.iaload, 1) := by decide +kernel
theorem dk_Md_item_243 : decode mi_Md_item.2.1 243 = .ok (.iconst 1, 1) := by decide +kernel
theorem dk_Md_item_244 : decode mi_Md_item.2.1 244 = .ok (.aload_n 0, 1) := by decide +kernel
theorem dk_Md_item_245 : decode mi_Md_item.2.1 245 = .ok (.getfield 69, 3) := by decide +kernel
theorem dk_Md_item_248 : decode mi_Md_item.2.1 248 = .ok (.iconst 1, 1) := by decide +kernel
theorem dk_Md_item_249 : decode mi_Md_item.2.1 249 = .ok (.iaload, 1) := by decide +kernel
theorem dk_Md_item_250 : decode mi_Md_item.2.1 250 = .ok (.ishl, 1) := by decide +kernel
theorem dk_Md_item_251 : decode mi_Md_item.2.1 251 = .ok (.ior, 1) := by decide +kernel
theorem dk_Md_item_252 : decode mi_Md_item.2.1 252 = .ok (.iastore, 1) := by decide +kernel
theorem dk_Md_item_253 : decode mi_Md_item.2.1 253 = .ok (.goto 76, 3) := by decide +kernel
theorem dk_Md_item_256 : decode mi_Md_item.2.1 256 = .ok (.aload_n 0, 1) := by decide +kernel
theorem dk_Md_item_257 : decode mi_Md_item.2.1 257 = .ok (.aload_n 0, 1) := by decide +kernel
theorem dk_Md_item_258 : decode mi_Md_item.2.1 258 = .ok (.getfield 69, 3) := by decide +kernel
theorem dk_Md_item_261 : decode mi_Md_item.2.1 261 = .ok (.iconst 0, 1) := by decide +kernel
theorem dk_Md_item_262 : decode mi_Md_item.2.1 262 = .ok (.iaload, 1) := by decide +kernel
theorem dk_Md_item_263 : decode mi_Md_item.2.1 263 = .ok (.aload_n 0, 1) := by decide +kernel
theorem dk_Md_item_264 : decode mi_Md_item.2.1 264 = .ok (.getfield 69, 3) := by decide +kernel
theorem dk_Md_item_267 : decode mi_Md_item.2.1 267 = .ok (.iconst 1, 1) := by decide +kernel
theorem dk_Md_item_268 : decode mi_Md_item.2.1 268 = .ok (.iaload, 1) := by decide +kernel
theorem dk_Md_item_269 : decode mi_Md_item.2.1 269 = .ok (.iconst 1, 1) := by decide +kernel
theorem dk_Md_item_270 : decode mi_Md_item.2.1 270 = .ok (.invokevirtual 114, 3) := by decide +kernel
theorem dk_Md_item_273 : decode mi_Md_item.2.1 273 = .ok (.goto 56, 3) := by decide +kernel
theorem dk_Md_item_276 : decode mi_Md_item.2.1 276 = .ok (.aload_n 0, 1) := by decide +kernel
theorem dk_Md_item_277 : decode mi_Md_item.2.1 277 = .ok (.aload_n 0, 1) := by decide +kernel
theorem dk_Md_item_278 : decode mi_Md_item.2.1 278 = .ok (.getfield 69, 3) := by decide +kernel
theorem dk_Md_item_281 : decode mi_Md_item.2.1 281 = .ok (.iconst 0, 1) := by decide +kernel
theorem dk_Md_item_282 : decode mi_Md_item.2.1 282 = .ok (.iaload, 1) := by decide +kernel
theorem dk_Md_item_283 : decode mi_Md_item.2.1 283 = .ok (.putfield 118, 3) := by decide +kernel
theorem dk_Md_item_286 : decode mi_Md_item.2.1 286 = .ok (.goto 43, 3) := by decide +kernel
theorem dk_Md_item_289 : decode mi_Md_item.2.1 289 = .ok (.aload_n 0, 1) := by decide +kernel
theorem dk_Md_item_290 : decode mi_Md_item.2.1 290 = .ok (.aload_n 0, 1) := by decide +kernel
theorem dk_Md_item_291 : decode mi_Md_item.2.1 291 = .ok (.getfield 69, 3) := by decide +kernel
theorem dk_Md_item_294 : decode mi_Md_item.2.1 294 = .ok (.iconst 0, 1) := by decide +kernel
theorem dk_Md_item_295 : decode mi_Md_item.2.1 295 = .ok (.iaload, 1) := by decide +kernel
theorem dk_Md_item_296 : decode mi_Md_item.2.1 296 = .ok (.putfield 13, 3) := by decide +kernel
theorem dk_Md_item_299 : decode mi_Md_item.2.1 299 = .ok (.goto 30, 3) := by decide +kernel
theorem dk_Md_item_302 : decode mi_Md_item.2.1 302 = .ok (.aload_n 0, 1) := by decide +kernel
theorem dk_Md_item_303 : decode mi_Md_item.2.1 303 = .ok (.getfield 41, 3) := by decide +kernel
theorem dk_Md_item_306 : decode mi_Md_item.2.1 306 = .ok (.aload_n 0, 1) := by decide +kernel
theorem dk_Md_item_307 : decode mi_Md_item.2.1 307 = .ok (.getfield 69, 3) := by decide +kernel
theorem dk_Md_item_310 : decode mi_Md_item.2.1 310 = .ok (.iconst 0, 1) := by decide +kernel
theorem dk_Md_item_311 : decode mi_Md_item.2.1 311 = .ok (.iaload, 1) := by decide +kernel
theorem dk_Md_item_312 : decode mi_Md_item.2.1 312 = .ok (.iconst 1, 1) := by decide +kernel
theorem dk_Md_item_313 : decode mi_Md_item.2.1 313 = .ok (.iastore, 1) := by decide +kernel
theorem dk_Md_item_314 : decode mi_Md_item.2.1 314 = .ok (.goto 15, 3) := by decide +kernel
theorem dk_Md_item_317 : decode mi_Md_item.2.1 317 = .ok (.aload_n 0, 1) := by decide +kernel
theorem dk_Md_item_318 : decode mi_Md_item.2.1 318 = .ok (.getfield 41, 3) := by decide +kernel
theorem dk_Md_item_321 : decode mi_Md_item.2.1 321 = .ok (.aload_n 0, 1) := by decide +kernel
theorem dk_Md_item_322 : decode mi_Md_item.2.1 322 = .ok (.getfield 69, 3) := by decide +kernel
theorem dk_Md_item_325 : decode mi_Md_item.2.1 325 = .ok (.iconst 0, 1) := by decide +kernel
theorem dk_Md_item_326 : decode mi_Md_item.2.1 326 = .ok (.iaload, 1) := by decide +kernel
theorem dk_Md_item_327 : decode mi_Md_item.2.1 327 = .ok (.iconst 3, 1) := by decide +kernel
theorem dk_Md_item_328 : decode mi_Md_item.2.1 328 = .ok (.iastore, 1) := by decide +kernel
theorem dk_Md_item_329 : decode mi_Md_item.2.1 329 = .ok (.iconst 1, 1) := by decide +kernel
theorem dk_Md_item_330 : decode mi_Md_item.2.1 330 = .ok (.ireturn, 1) := by decide +kernel
def Md_item_j104 (k_40 : Int32 → Int32 → nm_St → Option (Int32 × nm_St)) (x1 : Int32) (x2 : Int32) (σ : nm_St) : Option (Int32 × nm_St) :=
  ((Md_reads σ).bind fun q8 =>
  (if q8.1 = 0 then
    some ((0 : Int32), q8.2)
  else
    ((Md_isSo x1 x2 q8.2).bind fun q10 =>
    (if q10.1 = 0 then
      ((Md_wrong (σ.1 70 24) q10.2).bind fun q14 =>
      (nm_g (nm_bz q14.1) (
      some (q14.1, q14.2))))
    else
      (nm_g (nm_in x2 3) (
      (nm_let (nm_pI q10.2 86 x2.toNatClampNeg (q10.2.1 70 26)) fun s13 =>
      k_40 x1 (x2 + (1 : Int32)) s13)))))))
set_option maxRecDepth 100000 in
set_option maxHeartbeats 4000000 in
theorem r_Md_item_j104 (X : nm_X) (F : nm_F) (hF0 : 2 ≤ nm_d F) (k_40 : Int32 → Int32 → nm_St → Option (Int32 × nm_St)) (hk_40 : ∀ (x1 : Int32) (x2 : Int32) (σ : nm_St), Rn X mi_Md_item F (nm_Qf X F nm_wI) [(0, .ref 70), (1, .int x1), (2, .int x2)] [] 40 σ (k_40 x1 x2 σ)) (x1 : Int32) (x2 : Int32) (σ : nm_St) : Rn X mi_Md_item F (nm_Qf X F nm_wI) [(0, .ref 70), (1, .int x1), (2, .int x2)] [] 104 σ (Md_item_j104 k_40 x1 x2 σ) := by
  unfold Md_item_j104
  refine rn_aload_n (pc := 104) 0 dk_Md_item_104 rfl rfl rfl ?_
  refine gf_Md_124 (pc := 105) rfl dk_Md_item_105 ?_
  refine rn_istore_n (pc := 108) 3 dk_Md_item_108 rfl rfl rfl ?_
  refine rn_aload_n (pc := 109) 0 dk_Md_item_109 rfl rfl rfl ?_
  refine cl_Md_150 (pc := 110) (As := []) (st := []) rfl (ct_Md_reads X σ) (Nat.le_trans (Nat.le_of_ble_eq_true rfl) hF0) rfl rfl (Nat.le_of_ble_eq_true rfl) dk_Md_item_110 (fun q8 => ?_)
  refine rn_if_ne (pc := 113) 118 dk_Md_item_113 (by decide) (fun c9 => ?_) (fun c9 => ?_)
  · refine rn_aload_n (pc := 118) 0 dk_Md_item_118 rfl rfl rfl ?_
    refine rn_iload_n (pc := 119) 1 dk_Md_item_119 rfl rfl ?_
    refine rn_iload_n (pc := 120) 2 dk_Md_item_120 rfl rfl ?_
    refine cl_Md_153 (pc := 121) (As := [.int x1, .int x2]) (st := []) rfl (ct_Md_isSo X x1 x2 q8.2) (Nat.le_trans (Nat.le_of_ble_eq_true rfl) hF0) rfl rfl (Nat.le_of_ble_eq_true rfl) dk_Md_item_121 (fun q10 => ?_)
    refine rn_if_ne (pc := 124) 133 dk_Md_item_124 (by decide) (fun c11 => ?_) (fun c11 => ?_)
    · refine rn_aload_n (pc := 133) 0 dk_Md_item_133 rfl rfl rfl ?_
      refine gf_Md_69 (pc := 134) rfl dk_Md_item_134 ?_
      refine rn_iload_n (pc := 137) 2 dk_Md_item_137 rfl rfl ?_
      refine rn_aload_n (pc := 138) 0 dk_Md_item_138 rfl rfl rfl ?_
      refine gf_Md_133 (pc := 139) rfl dk_Md_item_139 ?_
      refine rn_iastore (pc := 142) rfl dk_Md_item_142 (fun g12 => ?_)
      refine rn_lets (fun s13 => ?_)
      refine rn_iinc (pc := 143) (1 : Int32) dk_Md_item_143 cn_i_1 rfl rfl rfl ?_
      refine rn_goto (pc := 146) 40 dk_Md_item_146 (by decide) ?_
      exact rn_sub (by rfl) (hk_40 x1 (x2 + (1 : Int32)) s13)
    · refine rn_aload_n (pc := 127) 0 dk_Md_item_127 rfl rfl rfl ?_
      refine rn_iload_n (pc := 128) 3 dk_Md_item_128 rfl rfl ?_
      refine cl_Md_140 (pc := 129) (As := [.int (σ.1 70 24)]) (st := []) rfl (ct_Md_wrong X (σ.1 70 24) q10.2) (Nat.le_trans (Nat.le_of_ble_eq_true rfl) hF0) rfl rfl (Nat.le_of_ble_eq_true rfl) dk_Md_item_129 (fun q14 => ?_)
      refine rn_guard (fun g15 => ?_)
      exact rn_zret (ty := .boolean) rfl (nm_bz_n g15) dk_Md_item_132
  · refine rn_iconst (pc := 116) (0 : Int32) dk_Md_item_116 cn_i_0 ?_
    exact rn_zret (ty := .boolean) rfl rfl dk_Md_item_117
def Md_item_l40 (k_149 : Int32 → nm_St → Option (Int32 × nm_St)) : Nat → Int32 → Int32 → nm_St → Option (Int32 × nm_St)
  | 0, _, _, _ => none
  | n + 1, x1, x2, σ =>
    (nm_g (nm_in x1 8) (
    (if (σ.1 85 x1.toNatClampNeg) ≤ x2 then
      k_149 x1 σ
    else
      (if x2 ≤ 0 then
        Md_item_j104 (Md_item_l40 k_149 n) x1 x2 σ
      else
        (if (σ.1 70 25) ≤ (σ.1 70 24) then
          ((Md_wrong (σ.1 70 24) σ).bind fun q17 =>
          (nm_g (nm_bz q17.1) (
          some (q17.1, q17.2))))
        else
          (nm_g (nm_in ((σ.1 70 23) + (σ.1 70 24)) 1280) (
          (if (Int64.toInt32 (σ.2 82 ((σ.1 70 23) + (σ.1 70 24)).toNatClampNeg)) = (32 : Int32) then
            (nm_let (nm_pI σ 70 24 ((σ.1 70 24) + (1 : Int32))) fun s21 =>
            Md_item_j104 (Md_item_l40 k_149 n) x1 x2 s21)
          else
            ((Md_wrong (σ.1 70 24) σ).bind fun q22 =>
            (nm_g (nm_bz q22.1) (
            some (q22.1, q22.2))))))))))))
set_option maxRecDepth 100000 in
set_option maxHeartbeats 4000000 in
theorem r_Md_item_l40 (X : nm_X) (F : nm_F) (hF0 : 2 ≤ nm_d F) (k_149 : Int32 → nm_St → Option (Int32 × nm_St)) (hk_149 : ∀ (x1 : Int32) (σ : nm_St), Rn X mi_Md_item F (nm_Qf X F nm_wI) [(0, .ref 70), (1, .int x1)] [] 149 σ (k_149 x1 σ)) : ∀ (n : Nat) (x1 : Int32) (x2 : Int32) (σ : nm_St), Rn X mi_Md_item F (nm_Qf X F nm_wI) [(0, .ref 70), (1, .int x1), (2, .int x2)] [] 40 σ (Md_item_l40 k_149 n x1 x2 σ) := by
  intro n
  induction n with
  | zero =>
    intro x1 x2 σ
    exact rn_none
  | succ n ih =>
    intro x1 x2 σ
    unfold Md_item_l40
    refine rn_iload_n (pc := 40) 2 dk_Md_item_40 rfl rfl ?_
    refine rn_aload_n (pc := 41) 0 dk_Md_item_41 rfl rfl rfl ?_
    refine gf_Md_66 (pc := 42) rfl dk_Md_item_42 ?_
    refine rn_iload_n (pc := 45) 1 dk_Md_item_45 rfl rfl ?_
    refine rn_iaload (pc := 46) rfl dk_Md_item_46 (fun g5 => ?_)
    refine rn_icmp_ge (pc := 47) 149 dk_Md_item_47 (by decide) (fun c6 => ?_) (fun c6 => ?_)
    · exact rn_sub (by rfl) (hk_149 x1 σ)
    · refine rn_iload_n (pc := 50) 2 dk_Md_item_50 rfl rfl ?_
      refine rn_if_le (pc := 51) 104 dk_Md_item_51 (by decide) (fun c7 => ?_) (fun c7 => ?_)
      · exact rn_sub (by rfl) (r_Md_item_j104 X F hF0 _ ih x1 x2 σ)
      · refine rn_aload_n (pc := 54) 0 dk_Md_item_54 rfl rfl rfl ?_
        refine gf_Md_124 (pc := 55) rfl dk_Md_item_55 ?_
        refine rn_aload_n (pc := 58) 0 dk_Md_item_58 rfl rfl rfl ?_
        refine gf_Md_127 (pc := 59) rfl dk_Md_item_59 ?_
        refine rn_icmp_ge (pc := 62) 85 dk_Md_item_62 (by decide) (fun c16 => ?_) (fun c16 => ?_)
        · refine rn_aload_n (pc := 85) 0 dk_Md_item_85 rfl rfl rfl ?_
          refine rn_aload_n (pc := 86) 0 dk_Md_item_86 rfl rfl rfl ?_
          refine gf_Md_124 (pc := 87) rfl dk_Md_item_87 ?_
          refine cl_Md_140 (pc := 90) (As := [.int (σ.1 70 24)]) (st := []) rfl (ct_Md_wrong X (σ.1 70 24) σ) (Nat.le_trans (Nat.le_of_ble_eq_true rfl) hF0) rfl rfl (Nat.le_of_ble_eq_true rfl) dk_Md_item_90 (fun q17 => ?_)
          refine rn_guard (fun g18 => ?_)
          exact rn_zret (ty := .boolean) rfl (nm_bz_n g18) dk_Md_item_93
        · refine rn_aload_n (pc := 65) 0 dk_Md_item_65 rfl rfl rfl ?_
          refine gf_Md_56 (pc := 66) rfl dk_Md_item_66 ?_
          refine rn_aload_n (pc := 69) 0 dk_Md_item_69 rfl rfl rfl ?_
          refine gf_Md_130 (pc := 70) rfl dk_Md_item_70 ?_
          refine rn_aload_n (pc := 73) 0 dk_Md_item_73 rfl rfl rfl ?_
          refine gf_Md_124 (pc := 74) rfl dk_Md_item_74 ?_
          refine rn_iadd (pc := 77) dk_Md_item_77 ?_
          refine rn_laload (pc := 78) rfl dk_Md_item_78 (fun g19 => ?_)
          refine rn_l2i (pc := 79) dk_Md_item_79 ?_
          refine rn_bipush (pc := 80) (32 : Int32) dk_Md_item_80 cn_b_32 ?_
          refine rn_icmp_eq (pc := 82) 94 dk_Md_item_82 (by decide) (fun c20 => ?_) (fun c20 => ?_)
          · refine rn_aload_n (pc := 94) 0 dk_Md_item_94 rfl rfl rfl ?_
            refine rn_dup (pc := 95) dk_Md_item_95 rfl ?_
            refine gf_Md_124 (pc := 96) rfl dk_Md_item_96 ?_
            refine rn_iconst (pc := 99) (1 : Int32) dk_Md_item_99 cn_i_1 ?_
            refine rn_iadd (pc := 100) dk_Md_item_100 ?_
            refine pf_Md_124 (pc := 101) rfl dk_Md_item_101 ?_
            refine rn_lets (fun s21 => ?_)
            exact rn_sub (by rfl) (r_Md_item_j104 X F hF0 _ ih x1 x2 s21)
          · refine rn_aload_n (pc := 85) 0 dk_Md_item_85 rfl rfl rfl ?_
            refine rn_aload_n (pc := 86) 0 dk_Md_item_86 rfl rfl rfl ?_
            refine gf_Md_124 (pc := 87) rfl dk_Md_item_87 ?_
            refine cl_Md_140 (pc := 90) (As := [.int (σ.1 70 24)]) (st := []) rfl (ct_Md_wrong X (σ.1 70 24) σ) (Nat.le_trans (Nat.le_of_ble_eq_true rfl) hF0) rfl rfl (Nat.le_of_ble_eq_true rfl) dk_Md_item_90 (fun q22 => ?_)
            refine rn_guard (fun g23 => ?_)
            exact rn_zret (ty := .boolean) rfl (nm_bz_n g23) dk_Md_item_93
def Md_item_j26 (σ : nm_St) : Option (Int32 × nm_St) :=
  ((Md_word σ).bind fun q3 =>
  (if q3.1 = (-1 : Int32) then
    some ((0 : Int32), q3.2)
  else
    Md_item_l40 (fun (e25 : Int32) (s24 : nm_St) =>
      (if e25 = (0 : Int32) then
        (nm_g (nm_in (0 : Int32) 3) (
        (nm_let (nm_pI s24 70 1 (s24.1 86 (0 : Int32).toNatClampNeg)) fun s28 =>
        some ((1 : Int32), s28))))
      else
      (if e25 = (1 : Int32) then
        (nm_g (nm_in (0 : Int32) 3) (
        (nm_g (nm_in (1 : Int32) 3) (
        (nm_g (nm_in (2 : Int32) 3) (
        ((Md_addsMaker (s24.1 86 (0 : Int32).toNatClampNeg) (s24.1 86 (1 : Int32).toNatClampNeg) (s24.1 86 (2 : Int32).toNatClampNeg) s24).bind fun q32 =>
        some ((1 : Int32), q32.2))))))))
      else
      (if e25 = (2 : Int32) then
        (nm_g (nm_in (0 : Int32) 3) (
        (nm_g (nm_in (s24.1 86 (0 : Int32).toNatClampNeg) 8) (
        (nm_g (nm_in (1 : Int32) 3) (
        (nm_g (nm_in (s24.1 86 (0 : Int32).toNatClampNeg) 8) (
        (nm_let (nm_pI s24 75 (s24.1 86 (0 : Int32).toNatClampNeg).toNatClampNeg ((s24.1 75 (s24.1 86 (0 : Int32).toNatClampNeg).toNatClampNeg) ||| ((1 : Int32) <<< ((s24.1 86 (1 : Int32).toNatClampNeg) &&& 31)))) fun s37 =>
        some ((1 : Int32), s37))))))))))
      else
      (if e25 = (3 : Int32) then
        (nm_g (nm_in (0 : Int32) 3) (
        (nm_g (nm_in (1 : Int32) 3) (
        ((Md_ties (s24.1 86 (0 : Int32).toNatClampNeg) (s24.1 86 (1 : Int32).toNatClampNeg) (1 : Int32) s24).bind fun q40 =>
        some ((1 : Int32), q40.2))))))
      else
      (if e25 = (4 : Int32) then
        (nm_g (nm_in (0 : Int32) 3) (
        (nm_let (nm_pI s24 70 2 (s24.1 86 (0 : Int32).toNatClampNeg)) fun s42 =>
        some ((1 : Int32), s42))))
      else
      (if e25 = (5 : Int32) then
        (nm_g (nm_in (0 : Int32) 3) (
        (nm_let (nm_pI s24 70 3 (s24.1 86 (0 : Int32).toNatClampNeg)) fun s44 =>
        some ((1 : Int32), s44))))
      else
      (if e25 = (6 : Int32) then
        (nm_g (nm_in (0 : Int32) 3) (
        (nm_g (nm_in (s24.1 86 (0 : Int32).toNatClampNeg) 8) (
        (nm_let (nm_pI s24 77 (s24.1 86 (0 : Int32).toNatClampNeg).toNatClampNeg (1 : Int32)) fun s47 =>
        some ((1 : Int32), s47))))))
      else
        (nm_g (nm_in (0 : Int32) 3) (
        (nm_g (nm_in (s24.1 86 (0 : Int32).toNatClampNeg) 8) (
        (nm_let (nm_pI s24 77 (s24.1 86 (0 : Int32).toNatClampNeg).toNatClampNeg (3 : Int32)) fun s50 =>
        some ((1 : Int32), s50)))))))))))))) 400 q3.1 (0 : Int32) q3.2))
set_option maxRecDepth 100000 in
set_option maxHeartbeats 4000000 in
theorem r_Md_item_j26 (X : nm_X) (F : nm_F) (hF0 : 2 ≤ nm_d F) (σ : nm_St) : Rn X mi_Md_item F (nm_Qf X F nm_wI) [(0, .ref 70)] [] 26 σ (Md_item_j26 σ) := by
  unfold Md_item_j26
  refine rn_aload_n (pc := 26) 0 dk_Md_item_26 rfl rfl rfl ?_
  refine cl_Md_146 (pc := 27) (As := []) (st := []) rfl (ct_Md_word X σ) (Nat.le_trans (Nat.le_of_ble_eq_true rfl) hF0) rfl rfl (Nat.le_of_ble_eq_true rfl) dk_Md_item_27 (fun q3 => ?_)
  refine rn_istore_n (pc := 30) 1 dk_Md_item_30 rfl rfl rfl ?_
  refine rn_iload_n (pc := 31) 1 dk_Md_item_31 rfl rfl ?_
  refine rn_iconst (pc := 32) (-1 : Int32) dk_Md_item_32 cn_i_m1 ?_
  refine rn_icmp_ne (pc := 33) 38 dk_Md_item_33 (by decide) (fun c4 => ?_) (fun c4 => ?_)
  · refine rn_iconst (pc := 38) (0 : Int32) dk_Md_item_38 cn_i_0 ?_
    refine rn_istore_n (pc := 39) 2 dk_Md_item_39 rfl rfl rfl ?_
    refine rn_sub (by rfl) (r_Md_item_l40 X F hF0 _ (fun e25 s24 => ?_) 400 q3.1 (0 : Int32) q3.2)
    refine rn_iload_n (pc := 149) 1 dk_Md_item_149 rfl rfl ?_
    refine rn_tcase (pc := 150) 0 (0 : Int32) 192 dk_Md_item_150 (by decide) (by decide) rfl (by decide) (fun c26_0 => ?_) (fun c26_0 => ?_)
    · refine rn_aload_n (pc := 192) 0 dk_Md_item_192 rfl rfl rfl ?_
      refine rn_aload_n (pc := 193) 0 dk_Md_item_193 rfl rfl rfl ?_
      refine gf_Md_69 (pc := 194) rfl dk_Md_item_194 ?_
      refine rn_iconst (pc := 197) (0 : Int32) dk_Md_item_197 cn_i_0 ?_
      refine rn_iaload (pc := 198) rfl dk_Md_item_198 (fun g27 => ?_)
      refine pf_Md_7 (pc := 199) rfl dk_Md_item_199 ?_
      refine rn_lets (fun s28 => ?_)
      refine rn_goto (pc := 202) 329 dk_Md_item_202 (by decide) ?_
      refine rn_iconst (pc := 329) (1 : Int32) dk_Md_item_329 cn_i_1 ?_
      exact rn_zret (ty := .boolean) rfl rfl dk_Md_item_330
    refine rn_tcase (pc := 150) 1 (1 : Int32) 205 dk_Md_item_150 (by decide) (by decide) rfl (by decide) (fun c26_1 => ?_) (fun c26_1 => ?_)
    · refine rn_aload_n (pc := 205) 0 dk_Md_item_205 rfl rfl rfl ?_
      refine rn_aload_n (pc := 206) 0 dk_Md_item_206 rfl rfl rfl ?_
      refine gf_Md_69 (pc := 207) rfl dk_Md_item_207 ?_
      refine rn_iconst (pc := 210) (0 : Int32) dk_Md_item_210 cn_i_0 ?_
      refine rn_iaload (pc := 211) rfl dk_Md_item_211 (fun g29 => ?_)
      refine rn_aload_n (pc := 212) 0 dk_Md_item_212 rfl rfl rfl ?_
      refine gf_Md_69 (pc := 213) rfl dk_Md_item_213 ?_
      refine rn_iconst (pc := 216) (1 : Int32) dk_Md_item_216 cn_i_1 ?_
      refine rn_iaload (pc := 217) rfl dk_Md_item_217 (fun g30 => ?_)
      refine rn_aload_n (pc := 218) 0 dk_Md_item_218 rfl rfl rfl ?_
      refine gf_Md_69 (pc := 219) rfl dk_Md_item_219 ?_
      refine rn_iconst (pc := 222) (2 : Int32) dk_Md_item_222 cn_i_2 ?_
      refine rn_iaload (pc := 223) rfl dk_Md_item_223 (fun g31 => ?_)
      refine cl_Md_110 (pc := 224) (As := [.int (s24.1 86 (0 : Int32).toNatClampNeg), .int (s24.1 86 (1 : Int32).toNatClampNeg), .int (s24.1 86 (2 : Int32).toNatClampNeg)]) (st := []) rfl (ct_Md_addsMaker X (s24.1 86 (0 : Int32).toNatClampNeg) (s24.1 86 (1 : Int32).toNatClampNeg) (s24.1 86 (2 : Int32).toNatClampNeg) s24) (Nat.le_trans (Nat.le_of_ble_eq_true rfl) hF0) rfl rfl (Nat.le_of_ble_eq_true rfl) dk_Md_item_224 (fun q32 => ?_)
      refine rn_pop (pc := 227) dk_Md_item_227 rfl ?_
      refine rn_goto (pc := 228) 329 dk_Md_item_228 (by decide) ?_
      refine rn_iconst (pc := 329) (1 : Int32) dk_Md_item_329 cn_i_1 ?_
      exact rn_zret (ty := .boolean) rfl rfl dk_Md_item_330
    refine rn_tcase (pc := 150) 2 (2 : Int32) 231 dk_Md_item_150 (by decide) (by decide) rfl (by decide) (fun c26_2 => ?_) (fun c26_2 => ?_)
    · refine rn_aload_n (pc := 231) 0 dk_Md_item_231 rfl rfl rfl ?_
      refine gf_Md_35 (pc := 232) rfl dk_Md_item_232 ?_
      refine rn_aload_n (pc := 235) 0 dk_Md_item_235 rfl rfl rfl ?_
      refine gf_Md_69 (pc := 236) rfl dk_Md_item_236 ?_
      refine rn_iconst (pc := 239) (0 : Int32) dk_Md_item_239 cn_i_0 ?_
      refine rn_iaload (pc := 240) rfl dk_Md_item_240 (fun g33 => ?_)
      refine rn_dup2 (pc := 241) dk_Md_item_241 rfl rfl ?_
      refine rn_iaload (pc := 242) rfl dk_Md_item_242 (fun g34 => ?_)
      refine rn_iconst (pc := 243) (1 : Int32) dk_Md_item_243 cn_i_1 ?_
      refine rn_aload_n (pc := 244) 0 dk_Md_item_244 rfl rfl rfl ?_
      refine gf_Md_69 (pc := 245) rfl dk_Md_item_245 ?_
      refine rn_iconst (pc := 248) (1 : Int32) dk_Md_item_248 cn_i_1 ?_
      refine rn_iaload (pc := 249) rfl dk_Md_item_249 (fun g35 => ?_)
      refine rn_ishl (pc := 250) dk_Md_item_250 ?_
      refine rn_ior (pc := 251) dk_Md_item_251 ?_
      refine rn_iastore (pc := 252) rfl dk_Md_item_252 (fun g36 => ?_)
      refine rn_lets (fun s37 => ?_)
      refine rn_goto (pc := 253) 329 dk_Md_item_253 (by decide) ?_
      refine rn_iconst (pc := 329) (1 : Int32) dk_Md_item_329 cn_i_1 ?_
      exact rn_zret (ty := .boolean) rfl rfl dk_Md_item_330
    refine rn_tcase (pc := 150) 3 (3 : Int32) 256 dk_Md_item_150 (by decide) (by decide) rfl (by decide) (fun c26_3 => ?_) (fun c26_3 => ?_)
    · refine rn_aload_n (pc := 256) 0 dk_Md_item_256 rfl rfl rfl ?_
      refine rn_aload_n (pc := 257) 0 dk_Md_item_257 rfl rfl rfl ?_
      refine gf_Md_69 (pc := 258) rfl dk_Md_item_258 ?_
      refine rn_iconst (pc := 261) (0 : Int32) dk_Md_item_261 cn_i_0 ?_
      refine rn_iaload (pc := 262) rfl dk_Md_item_262 (fun g38 => ?_)
      refine rn_aload_n (pc := 263) 0 dk_Md_item_263 rfl rfl rfl ?_
      refine gf_Md_69 (pc := 264) rfl dk_Md_item_264 ?_
      refine rn_iconst (pc := 267) (1 : Int32) dk_Md_item_267 cn_i_1 ?_
      refine rn_iaload (pc := 268) rfl dk_Md_item_268 (fun g39 => ?_)
      refine rn_iconst (pc := 269) (1 : Int32) dk_Md_item_269 cn_i_1 ?_
      refine cl_Md_114 (pc := 270) (As := [.int (s24.1 86 (0 : Int32).toNatClampNeg), .int (s24.1 86 (1 : Int32).toNatClampNeg), .int (1 : Int32)]) (st := []) rfl (ct_Md_ties X (s24.1 86 (0 : Int32).toNatClampNeg) (s24.1 86 (1 : Int32).toNatClampNeg) (1 : Int32) s24) (Nat.le_trans (Nat.le_of_ble_eq_true rfl) hF0) rfl rfl (Nat.le_of_ble_eq_true rfl) dk_Md_item_270 (fun q40 => ?_)
      refine rn_goto (pc := 273) 329 dk_Md_item_273 (by decide) ?_
      refine rn_iconst (pc := 329) (1 : Int32) dk_Md_item_329 cn_i_1 ?_
      exact rn_zret (ty := .boolean) rfl rfl dk_Md_item_330
    refine rn_tcase (pc := 150) 4 (4 : Int32) 276 dk_Md_item_150 (by decide) (by decide) rfl (by decide) (fun c26_4 => ?_) (fun c26_4 => ?_)
    · refine rn_aload_n (pc := 276) 0 dk_Md_item_276 rfl rfl rfl ?_
      refine rn_aload_n (pc := 277) 0 dk_Md_item_277 rfl rfl rfl ?_
      refine gf_Md_69 (pc := 278) rfl dk_Md_item_278 ?_
      refine rn_iconst (pc := 281) (0 : Int32) dk_Md_item_281 cn_i_0 ?_
      refine rn_iaload (pc := 282) rfl dk_Md_item_282 (fun g41 => ?_)
      refine pf_Md_118 (pc := 283) rfl dk_Md_item_283 ?_
      refine rn_lets (fun s42 => ?_)
      refine rn_goto (pc := 286) 329 dk_Md_item_286 (by decide) ?_
      refine rn_iconst (pc := 329) (1 : Int32) dk_Md_item_329 cn_i_1 ?_
      exact rn_zret (ty := .boolean) rfl rfl dk_Md_item_330
    refine rn_tcase (pc := 150) 5 (5 : Int32) 289 dk_Md_item_150 (by decide) (by decide) rfl (by decide) (fun c26_5 => ?_) (fun c26_5 => ?_)
    · refine rn_aload_n (pc := 289) 0 dk_Md_item_289 rfl rfl rfl ?_
      refine rn_aload_n (pc := 290) 0 dk_Md_item_290 rfl rfl rfl ?_
      refine gf_Md_69 (pc := 291) rfl dk_Md_item_291 ?_
      refine rn_iconst (pc := 294) (0 : Int32) dk_Md_item_294 cn_i_0 ?_
      refine rn_iaload (pc := 295) rfl dk_Md_item_295 (fun g43 => ?_)
      refine pf_Md_13 (pc := 296) rfl dk_Md_item_296 ?_
      refine rn_lets (fun s44 => ?_)
      refine rn_goto (pc := 299) 329 dk_Md_item_299 (by decide) ?_
      refine rn_iconst (pc := 329) (1 : Int32) dk_Md_item_329 cn_i_1 ?_
      exact rn_zret (ty := .boolean) rfl rfl dk_Md_item_330
    refine rn_tcase (pc := 150) 6 (6 : Int32) 302 dk_Md_item_150 (by decide) (by decide) rfl (by decide) (fun c26_6 => ?_) (fun c26_6 => ?_)
    · refine rn_aload_n (pc := 302) 0 dk_Md_item_302 rfl rfl rfl ?_
      refine gf_Md_41 (pc := 303) rfl dk_Md_item_303 ?_
      refine rn_aload_n (pc := 306) 0 dk_Md_item_306 rfl rfl rfl ?_
      refine gf_Md_69 (pc := 307) rfl dk_Md_item_307 ?_
      refine rn_iconst (pc := 310) (0 : Int32) dk_Md_item_310 cn_i_0 ?_
      refine rn_iaload (pc := 311) rfl dk_Md_item_311 (fun g45 => ?_)
      refine rn_iconst (pc := 312) (1 : Int32) dk_Md_item_312 cn_i_1 ?_
      refine rn_iastore (pc := 313) rfl dk_Md_item_313 (fun g46 => ?_)
      refine rn_lets (fun s47 => ?_)
      refine rn_goto (pc := 314) 329 dk_Md_item_314 (by decide) ?_
      refine rn_iconst (pc := 329) (1 : Int32) dk_Md_item_329 cn_i_1 ?_
      exact rn_zret (ty := .boolean) rfl rfl dk_Md_item_330
    refine rn_tdef (pc := 150) [(0 : Int32), (1 : Int32), (2 : Int32), (3 : Int32), (4 : Int32), (5 : Int32), (6 : Int32)] 317 dk_Md_item_150 (by decide) (by decide) (List.forall_mem_cons.mpr ⟨c26_0, (List.forall_mem_cons.mpr ⟨c26_1, (List.forall_mem_cons.mpr ⟨c26_2, (List.forall_mem_cons.mpr ⟨c26_3, (List.forall_mem_cons.mpr ⟨c26_4, (List.forall_mem_cons.mpr ⟨c26_5, (List.forall_mem_cons.mpr ⟨c26_6, (fun _ h => absurd h List.not_mem_nil)⟩)⟩)⟩)⟩)⟩)⟩)⟩) (by decide) ?_
    refine rn_aload_n (pc := 317) 0 dk_Md_item_317 rfl rfl rfl ?_
    refine gf_Md_41 (pc := 318) rfl dk_Md_item_318 ?_
    refine rn_aload_n (pc := 321) 0 dk_Md_item_321 rfl rfl rfl ?_
    refine gf_Md_69 (pc := 322) rfl dk_Md_item_322 ?_
    refine rn_iconst (pc := 325) (0 : Int32) dk_Md_item_325 cn_i_0 ?_
    refine rn_iaload (pc := 326) rfl dk_Md_item_326 (fun g48 => ?_)
    refine rn_iconst (pc := 327) (3 : Int32) dk_Md_item_327 cn_i_3 ?_
    refine rn_iastore (pc := 328) rfl dk_Md_item_328 (fun g49 => ?_)
    refine rn_lets (fun s50 => ?_)
    refine rn_iconst (pc := 329) (1 : Int32) dk_Md_item_329 cn_i_1 ?_
    exact rn_zret (ty := .boolean) rfl rfl dk_Md_item_330
  · refine rn_iconst (pc := 36) (0 : Int32) dk_Md_item_36 cn_i_0 ?_
    exact rn_zret (ty := .boolean) rfl rfl dk_Md_item_37
def Md_item (σ : nm_St) : Option (Int32 × nm_St) :=
  ((Md_stands1 (1 : Int32) σ).bind fun q1 =>
  (if q1.1 = 0 then
    Md_item_j26 q1.2
  else
    (if (q1.2.1 70 0) = (8 : Int32) then
      ((Md_wrong (q1.2.1 70 24) q1.2).bind fun q52 =>
      (nm_g (nm_bz q52.1) (
      some (q52.1, q52.2))))
    else
      Md_item_j26 q1.2)))
set_option maxRecDepth 100000 in
set_option maxHeartbeats 4000000 in
theorem ct_Md_item (X : nm_X) (σ : nm_St) : Ct X mi_Md_item 2 nm_wI [.ref 70] σ (Md_item σ) := by
  refine Ct.of (by decide +kernel) rfl (fun F hF0 => ?_)
  unfold Md_item
  refine rn_aload_n (pc := 0) 0 dk_Md_item_0 rfl rfl rfl ?_
  refine rn_iconst (pc := 1) (1 : Int32) dk_Md_item_1 cn_i_1 ?_
  refine cl_Md_143 (pc := 2) (As := [.int (1 : Int32)]) (st := []) rfl (ct_Md_stands1 X (1 : Int32) σ) (Nat.le_trans (Nat.le_of_ble_eq_true rfl) hF0) rfl rfl (Nat.le_of_ble_eq_true rfl) dk_Md_item_2 (fun q1 => ?_)
  refine rn_if_eq (pc := 5) 26 dk_Md_item_5 (by decide) (fun c2 => ?_) (fun c2 => ?_)
  · exact rn_sub (by rfl) (r_Md_item_j26 X F hF0 q1.2)
  · refine rn_aload_n (pc := 8) 0 dk_Md_item_8 rfl rfl rfl ?_
    refine gf_Md_90 (pc := 9) rfl dk_Md_item_9 ?_
    refine rn_bipush (pc := 12) (8 : Int32) dk_Md_item_12 cn_b_8 ?_
    refine rn_icmp_ne (pc := 14) 26 dk_Md_item_14 (by decide) (fun c51 => ?_) (fun c51 => ?_)
    · exact rn_sub (by rfl) (r_Md_item_j26 X F hF0 q1.2)
    · refine rn_aload_n (pc := 17) 0 dk_Md_item_17 rfl rfl rfl ?_
      refine rn_aload_n (pc := 18) 0 dk_Md_item_18 rfl rfl rfl ?_
      refine gf_Md_124 (pc := 19) rfl dk_Md_item_19 ?_
      refine cl_Md_140 (pc := 22) (As := [.int (q1.2.1 70 24)]) (st := []) rfl (ct_Md_wrong X (q1.2.1 70 24) q1.2) (Nat.le_trans (Nat.le_of_ble_eq_true rfl) hF0) rfl rfl (Nat.le_of_ble_eq_true rfl) dk_Md_item_22 (fun q52 => ?_)
      refine rn_guard (fun g53 => ?_)
      exact rn_zret (ty := .boolean) rfl (nm_bz_n g53) dk_Md_item_25
theorem dk_Md_wanted_0 : decode mi_Md_wanted.2.1 0 = .ok (.aload_n 0, 1) := by decide +kernel
theorem dk_Md_wanted_1 : decode mi_Md_wanted.2.1 1 = .ok (.iload_n 1, 1) := by decide +kernel
theorem dk_Md_wanted_2 : decode mi_Md_wanted.2.1 2 = .ok (.invokevirtual 93, 3) := by decide +kernel
theorem dk_Md_wanted_5 : decode mi_Md_wanted.2.1 5 = .ok (.ifCond .ne 7, 3) := by decide +kernel
theorem dk_Md_wanted_8 : decode mi_Md_wanted.2.1 8 = .ok (.iconst (-1), 1) := by decide +kernel
theorem dk_Md_wanted_9 : decode mi_Md_wanted.2.1 9 = .ok (.goto 33, 3) := by decide +kernel
theorem dk_Md_wanted_12 : decode mi_Md_wanted.2.1 12 = .ok (.aload_n 0, 1) := by decide +kernel
theorem dk_Md_wanted_13 : decode mi_Md_wanted.2.1 13 = .ok (.getfield 44, 3) := by decide +kernel
theorem dk_Md_wanted_16 : decode mi_Md_wanted.2.1 16 = .ok (.iload_n 1, 1) := by decide +kernel
theorem dk_Md_wanted_17 : decode mi_Md_wanted.2.1 17 = .ok (.iaload, 1) := by decide +kernel
theorem dk_Md_wanted_18 : decode mi_Md_wanted.2.1 18 = .ok (.iconst 2, 1) := by decide +kernel
theorem dk_Md_wanted_19 : decode mi_Md_wanted.2.1 19 = .ok (.if_icmp .ne 8, 3) := by decide +kernel
theorem dk_Md_wanted_22 : decode mi_Md_wanted.2.1 22 = .ok (.bipush (-2), 2) := by decide +kernel
theorem dk_Md_wanted_24 : decode mi_Md_wanted.2.1 24 = .ok (.goto 18, 3) := by decide +kernel
theorem dk_Md_wanted_27 : decode mi_Md_wanted.2.1 27 = .ok (.aload_n 0, 1) := by decide +kernel
theorem dk_Md_wanted_28 : decode mi_Md_wanted.2.1 28 = .ok (.getfield 44, 3) := by decide +kernel
theorem dk_Md_wanted_31 : decode mi_Md_wanted.2.1 31 = .ok (.iload_n 1, 1) := by decide +kernel
theorem dk_Md_wanted_32 : decode mi_Md_wanted.2.1 32 = .ok (.iaload, 1) := by decide +kernel
theorem dk_Md_wanted_33 : decode mi_Md_wanted.2.1 33 = .ok (.ifCond .ne 8, 3) := by decide +kernel
theorem dk_Md_wanted_36 : decode mi_Md_wanted.2.1 36 = .ok (.bipush (-3), 2) := by decide +kernel
theorem dk_Md_wanted_38 : decode mi_Md_wanted.2.1 38 = .ok (.goto 4, 3) := by decide +kernel
theorem dk_Md_wanted_41 : decode mi_Md_wanted.2.1 41 = .ok (.iconst 0, 1) := by decide +kernel
theorem dk_Md_wanted_42 : decode mi_Md_wanted.2.1 42 = .ok (.ireturn, 1) := by decide +kernel
def Md_wanted (p1 : Int32) (σ : nm_St) : Option (Int32 × nm_St) :=
  ((Md_isShelf p1 σ).bind fun q1 =>
  (if q1.1 = 0 then
    some ((-1 : Int32), q1.2)
  else
    (nm_g (nm_in p1 8) (
    (if (q1.2.1 78 p1.toNatClampNeg) = (2 : Int32) then
      some ((-2 : Int32), q1.2)
    else
      (nm_g (nm_in p1 8) (
      (if (q1.2.1 78 p1.toNatClampNeg) = 0 then
        some ((-3 : Int32), q1.2)
      else
        some ((0 : Int32), q1.2)))))))))
set_option maxRecDepth 100000 in
set_option maxHeartbeats 4000000 in
theorem ct_Md_wanted (X : nm_X) (p1 : Int32) (σ : nm_St) : Ct X mi_Md_wanted 1 nm_wI [.ref 70, .int p1] σ (Md_wanted p1 σ) := by
  refine Ct.of (by decide +kernel) rfl (fun F hF0 => ?_)
  unfold Md_wanted
  refine rn_aload_n (pc := 0) 0 dk_Md_wanted_0 rfl rfl rfl ?_
  refine rn_iload_n (pc := 1) 1 dk_Md_wanted_1 rfl rfl ?_
  refine cl_Md_93 (pc := 2) (As := [.int p1]) (st := []) rfl (ct_Md_isShelf X p1 σ) (Nat.le_trans (Nat.le_of_ble_eq_true rfl) hF0) rfl rfl (Nat.le_of_ble_eq_true rfl) dk_Md_wanted_2 (fun q1 => ?_)
  refine rn_if_ne (pc := 5) 12 dk_Md_wanted_5 (by decide) (fun c2 => ?_) (fun c2 => ?_)
  · refine rn_aload_n (pc := 12) 0 dk_Md_wanted_12 rfl rfl rfl ?_
    refine gf_Md_44 (pc := 13) rfl dk_Md_wanted_13 ?_
    refine rn_iload_n (pc := 16) 1 dk_Md_wanted_16 rfl rfl ?_
    refine rn_iaload (pc := 17) rfl dk_Md_wanted_17 (fun g3 => ?_)
    refine rn_iconst (pc := 18) (2 : Int32) dk_Md_wanted_18 cn_i_2 ?_
    refine rn_icmp_ne (pc := 19) 27 dk_Md_wanted_19 (by decide) (fun c4 => ?_) (fun c4 => ?_)
    · refine rn_aload_n (pc := 27) 0 dk_Md_wanted_27 rfl rfl rfl ?_
      refine gf_Md_44 (pc := 28) rfl dk_Md_wanted_28 ?_
      refine rn_iload_n (pc := 31) 1 dk_Md_wanted_31 rfl rfl ?_
      refine rn_iaload (pc := 32) rfl dk_Md_wanted_32 (fun g5 => ?_)
      refine rn_if_ne (pc := 33) 41 dk_Md_wanted_33 (by decide) (fun c6 => ?_) (fun c6 => ?_)
      · refine rn_iconst (pc := 41) (0 : Int32) dk_Md_wanted_41 cn_i_0 ?_
        exact rn_iret rfl dk_Md_wanted_42
      · refine rn_bipush (pc := 36) (-3 : Int32) dk_Md_wanted_36 cn_b_m3 ?_
        refine rn_goto (pc := 38) 42 dk_Md_wanted_38 (by decide) ?_
        exact rn_iret rfl dk_Md_wanted_42
    · refine rn_bipush (pc := 22) (-2 : Int32) dk_Md_wanted_22 cn_b_m2 ?_
      refine rn_goto (pc := 24) 42 dk_Md_wanted_24 (by decide) ?_
      exact rn_iret rfl dk_Md_wanted_42
  · refine rn_iconst (pc := 8) (-1 : Int32) dk_Md_wanted_8 cn_i_m1 ?_
    refine rn_goto (pc := 9) 42 dk_Md_wanted_9 (by decide) ?_
    exact rn_iret rfl dk_Md_wanted_42
theorem dk_Md_island_0 : decode mi_Md_island.2.1 0 = .ok (.aload_n 0, 1) := by decide +kernel
theorem dk_Md_island_1 : decode mi_Md_island.2.1 1 = .ok (.iload_n 1, 1) := by decide +kernel
theorem dk_Md_island_2 : decode mi_Md_island.2.1 2 = .ok (.invokevirtual 164, 3) := by decide +kernel
theorem dk_Md_island_5 : decode mi_Md_island.2.1 5 = .ok (.istore_n 2, 1) := by decide +kernel
theorem dk_Md_island_6 : decode mi_Md_island.2.1 6 = .ok (.iload_n 2, 1) := by decide +kernel
theorem dk_Md_island_7 : decode mi_Md_island.2.1 7 = .ok (.ifCond .eq 9, 3) := by decide +kernel
theorem dk_Md_island_10 : decode mi_Md_island.2.1 10 = .ok (.aload_n 0, 1) := by decide +kernel
theorem dk_Md_island_11 : decode mi_Md_island.2.1 11 = .ok (.iload_n 2, 1) := by decide +kernel
theorem dk_Md_island_12 : decode mi_Md_island.2.1 12 = .ok (.invokevirtual 97, 3) := by decide +kernel
theorem dk_Md_island_15 : decode mi_Md_island.2.1 15 = .ok (.ireturn, 1) := by decide +kernel
theorem dk_Md_island_16 : decode mi_Md_island.2.1 16 = .ok (.aload_n 0, 1) := by decide +kernel
theorem dk_Md_island_17 : decode mi_Md_island.2.1 17 = .ok (.aload_n 0, 1) := by decide +kernel
theorem dk_Md_island_18 : decode mi_Md_island.2.1 18 = .ok (.getfield 72, 3) := by decide +kernel
theorem dk_Md_island_21 : decode mi_Md_island.2.1 21 = .ok (.iconst 0, 1) := by decide +kernel
theorem dk_Md_island_22 : decode mi_Md_island.2.1 22 = .ok (.invokevirtual 167, 3) := by decide +kernel
theorem dk_Md_island_25 : decode mi_Md_island.2.1 25 = .ok (.aload_n 0, 1) := by decide +kernel
theorem dk_Md_island_26 : decode mi_Md_island.2.1 26 = .ok (.sipush 160, 3) := by decide +kernel
theorem dk_Md_island_29 : decode mi_Md_island.2.1 29 = .ok (.iload_n 1, 1) := by decide +kernel
theorem dk_Md_island_30 : decode mi_Md_island.2.1 30 = .ok (.imul, 1) := by decide +kernel
theorem dk_Md_island_31 : decode mi_Md_island.2.1 31 = .ok (.putfield 130, 3) := by decide +kernel
theorem dk_Md_island_34 : decode mi_Md_island.2.1 34 = .ok (.aload_n 0, 1) := by decide +kernel
theorem dk_Md_island_35 : decode mi_Md_island.2.1 35 = .ok (.iconst 0, 1) := by decide +kernel
theorem dk_Md_island_36 : decode mi_Md_island.2.1 36 = .ok (.putfield 124, 3) := by decide +kernel
theorem dk_Md_island_39 : decode mi_Md_island.2.1 39 = .ok (.aload_n 0, 1) := by decide +kernel
theorem dk_Md_island_40 : decode mi_Md_island.2.1 40 = .ok (.aload_n 0, 1) := by decide +kernel
theorem dk_Md_island_41 : decode mi_Md_island.2.1 41 = .ok (.getfield 50, 3) := by decide +kernel
theorem dk_Md_island_44 : decode mi_Md_island.2.1 44 = .ok (.iload_n 1, 1) := by decide +kernel
theorem dk_Md_island_45 : decode mi_Md_island.2.1 45 = .ok (.iaload, 1) := by decide +kernel
theorem dk_Md_island_46 : decode mi_Md_island.2.1 46 = .ok (.putfield 127, 3) := by decide +kernel
theorem dk_Md_island_49 : decode mi_Md_island.2.1 49 = .ok (.aload_n 0, 1) := by decide +kernel
theorem dk_Md_island_50 : decode mi_Md_island.2.1 50 = .ok (.iconst (-1), 1) := by decide +kernel
theorem dk_Md_island_51 : decode mi_Md_island.2.1 51 = .ok (.putfield 19, 3) := by decide +kernel
theorem dk_Md_island_54 : decode mi_Md_island.2.1 54 = .ok (.iconst 1, 1) := by decide +kernel
theorem dk_Md_island_55 : decode mi_Md_island.2.1 55 = .ok (.istore_n 3, 1) := by decide +kernel
theorem dk_Md_island_56 : decode mi_Md_island.2.1 56 = .ok (.aload_n 0, 1) := by decide +kernel
theorem dk_Md_island_57 : decode mi_Md_island.2.1 57 = .ok (.invokevirtual 171, 3) := by decide +kernel
theorem dk_Md_island_60 : decode mi_Md_island.2.1 60 = .ok (.istore 4, 2) := by decide +kernel
theorem dk_Md_island_62 : decode mi_Md_island.2.1 62 = .ok (.iload 4, 2) := by decide +kernel
theorem dk_Md_island_64 : decode mi_Md_island.2.1 64 = .ok (.ifCond .eq 69, 3) := by decide +kernel
theorem dk_Md_island_67 : decode mi_Md_island.2.1 67 = .ok (.aload_n 0, 1) := by decide +kernel
theorem dk_Md_island_68 : decode mi_Md_island.2.1 68 = .ok (.getfield 124, 3) := by decide +kernel
theorem dk_Md_island_71 : decode mi_Md_island.2.1 71 = .ok (.aload_n 0, 1) := by decide +kernel
theorem dk_Md_island_72 : decode mi_Md_island.2.1 72 = .ok (.getfield 127, 3) := by decide +kernel
theorem dk_Md_island_75 : decode mi_Md_island.2.1 75 = .ok (.if_icmp .ge 58, 3) := by decide +kernel
theorem dk_Md_island_78 : decode mi_Md_island.2.1 78 = .ok (.aload_n 0, 1) := by decide +kernel
theorem dk_Md_island_79 : decode mi_Md_island.2.1 79 = .ok (.getfield 56, 3) := by decide +kernel
theorem dk_Md_island_82 : decode mi_Md_island.2.1 82 = .ok (.aload_n 0, 1) := by decide +kernel
theorem dk_Md_island_83 : decode mi_Md_island.2.1 83 = .ok (.getfield 130, 3) := by decide +kernel
theorem dk_Md_island_86 : decode mi_Md_island.2.1 86 = .ok (.aload_n 0, 1) := by decide +kernel
theorem dk_Md_island_87 : decode mi_Md_island.2.1 87 = .ok (.getfield 124, 3) := by decide +kernel
theorem dk_Md_island_90 : decode mi_Md_island.2.1 90 = .ok (.iadd, 1) := by decide +kernel
theorem dk_Md_island_91 : decode mi_Md_island.2.1 91 = .ok (.laload, 1) := by decide +kernel
theorem dk_Md_island_92 : decode mi_Md_island.2.1 92 = .ok (.l2i, 1) := by decide +kernel
theorem dk_Md_island_93 : decode mi_Md_island.2.1 93 = .ok (.bipush 59, 2) := by decide +kernel
theorem dk_Md_island_95 : decode mi_Md_island.2.1 95 = .ok (.if_icmp .eq 16, 3) := by decide +kernel
theorem dk_Md_island_98 : decode mi_Md_island.2.1 98 = .ok (.aload_n 0, 1) := by decide +kernel
theorem dk_Md_island_99 : decode mi_Md_island.2.1 99 = .ok (.aload_n 0, 1) := by decide +kernel
theorem dk_Md_island_100 : decode mi_Md_island.2.1 100 = .ok (.getfield 124, 3) := by decide +kernel
theorem dk_Md_island_103 : decode mi_Md_island.2.1 103 = .ok (.invokevirtual 140, 3) := by decide +kernel
theorem dk_Md_island_106 : decode mi_Md_island.2.1 106 = .ok (.istore 4, 2) := by decide +kernel
theorem dk_Md_island_108 : decode mi_Md_island.2.1 108 = .ok (.goto (-46), 3) := by decide +kernel
theorem dk_Md_island_111 : decode mi_Md_island.2.1 111 = .ok (.aload_n 0, 1) := by decide +kernel
theorem dk_Md_island_112 : decode mi_Md_island.2.1 112 = .ok (.dup, 1) := by decide +kernel
theorem dk_Md_island_113 : decode mi_Md_island.2.1 113 = .ok (.getfield 124, 3) := by decide +kernel
theorem dk_Md_island_116 : decode mi_Md_island.2.1 116 = .ok (.iconst 1, 1) := by decide +kernel
theorem dk_Md_island_117 : decode mi_Md_island.2.1 117 = .ok (.iadd, 1) := by decide +kernel
theorem dk_Md_island_118 : decode mi_Md_island.2.1 118 = .ok (.putfield 124, 3) := by decide +kernel
theorem dk_Md_island_121 : decode mi_Md_island.2.1 121 = .ok (.iinc 3 1, 3) := by decide +kernel
theorem dk_Md_island_124 : decode mi_Md_island.2.1 124 = .ok (.aload_n 0, 1) := by decide +kernel
theorem dk_Md_island_125 : decode mi_Md_island.2.1 125 = .ok (.invokevirtual 171, 3) := by decide +kernel
theorem dk_Md_island_128 : decode mi_Md_island.2.1 128 = .ok (.istore 4, 2) := by decide +kernel
theorem dk_Md_island_130 : decode mi_Md_island.2.1 130 = .ok (.goto (-68), 3) := by decide +kernel
theorem dk_Md_island_133 : decode mi_Md_island.2.1 133 = .ok (.iload 4, 2) := by decide +kernel
theorem dk_Md_island_135 : decode mi_Md_island.2.1 135 = .ok (.ifCond .eq 5, 3) := by decide +kernel
theorem dk_Md_island_138 : decode mi_Md_island.2.1 138 = .ok (.iload_n 3, 1) := by decide +kernel
theorem dk_Md_island_139 : decode mi_Md_island.2.1 139 = .ok (.ireturn, 1) := by decide +kernel
theorem dk_Md_island_140 : decode mi_Md_island.2.1 140 = .ok (.aload_n 0, 1) := by decide +kernel
theorem dk_Md_island_141 : decode mi_Md_island.2.1 141 = .ok (.aload_n 0, 1) := by decide +kernel
theorem dk_Md_island_142 : decode mi_Md_island.2.1 142 = .ok (.getfield 72, 3) := by decide +kernel
theorem dk_Md_island_145 : decode mi_Md_island.2.1 145 = .ok (.iconst 1, 1) := by decide +kernel
theorem dk_Md_island_146 : decode mi_Md_island.2.1 146 = .ok (.invokevirtual 167, 3) := by decide +kernel
theorem dk_Md_island_149 : decode mi_Md_island.2.1 149 = .ok (.aload_n 0, 1) := by decide +kernel
theorem dk_Md_island_150 : decode mi_Md_island.2.1 150 = .ok (.aload_n 0, 1) := by decide +kernel
theorem dk_Md_island_151 : decode mi_Md_island.2.1 151 = .ok (.getfield 121, 3) := by decide +kernel
theorem dk_Md_island_154 : decode mi_Md_island.2.1 154 = .ok (.putfield 19, 3) := by decide +kernel
theorem dk_Md_island_157 : decode mi_Md_island.2.1 157 = .ok (.aload_n 0, 1) := by decide +kernel
theorem dk_Md_island_158 : decode mi_Md_island.2.1 158 = .ok (.bipush (-6), 2) := by decide +kernel
theorem dk_Md_island_160 : decode mi_Md_island.2.1 160 = .ok (.invokevirtual 97, 3) := by decide +kernel
theorem dk_Md_island_163 : decode mi_Md_island.2.1 163 = .ok (.ireturn, 1) := by decide +kernel
def Md_island_l62 (k_133 : Int32 → Int32 → nm_St → Option (Int32 × nm_St)) : Nat → Int32 → Int32 → nm_St → Option (Int32 × nm_St)
  | 0, _, _, _ => none
  | n + 1, x3, x4, σ =>
    (if x4 = 0 then
      k_133 x3 x4 σ
    else
      (if (σ.1 70 25) ≤ (σ.1 70 24) then
        k_133 x3 x4 σ
      else
        (nm_g (nm_in ((σ.1 70 23) + (σ.1 70 24)) 1280) (
        (if (Int64.toInt32 (σ.2 82 ((σ.1 70 23) + (σ.1 70 24)).toNatClampNeg)) = (59 : Int32) then
          (nm_let (nm_pI σ 70 24 ((σ.1 70 24) + (1 : Int32))) fun s14 =>
          ((Md_item s14).bind fun q15 =>
          (Md_island_l62 k_133 n) (x3 + (1 : Int32)) q15.1 q15.2))
        else
          ((Md_wrong (σ.1 70 24) σ).bind fun q16 =>
          (Md_island_l62 k_133 n) x3 q16.1 q16.2))))))
set_option maxRecDepth 100000 in
set_option maxHeartbeats 4000000 in
theorem r_Md_island_l62 (X : nm_X) (F : nm_F) (hF0 : 3 ≤ nm_d F) (k_133 : Int32 → Int32 → nm_St → Option (Int32 × nm_St)) (hk_133 : ∀ (x3 : Int32) (x4 : Int32) (σ : nm_St), Rn X mi_Md_island F (nm_Qf X F nm_wI) [(0, .ref 70), (3, .int x3), (4, .int x4)] [] 133 σ (k_133 x3 x4 σ)) : ∀ (n : Nat) (x3 : Int32) (x4 : Int32) (σ : nm_St), Rn X mi_Md_island F (nm_Qf X F nm_wI) [(0, .ref 70), (3, .int x3), (4, .int x4)] [] 62 σ (Md_island_l62 k_133 n x3 x4 σ) := by
  intro n
  induction n with
  | zero =>
    intro x3 x4 σ
    exact rn_none
  | succ n ih =>
    intro x3 x4 σ
    unfold Md_island_l62
    refine rn_iload (pc := 62) dk_Md_island_62 rfl ?_
    refine rn_if_eq (pc := 64) 133 dk_Md_island_64 (by decide) (fun c10 => ?_) (fun c10 => ?_)
    · exact rn_sub (by rfl) (hk_133 x3 x4 σ)
    · refine rn_aload_n (pc := 67) 0 dk_Md_island_67 rfl rfl rfl ?_
      refine gf_Md_124 (pc := 68) rfl dk_Md_island_68 ?_
      refine rn_aload_n (pc := 71) 0 dk_Md_island_71 rfl rfl rfl ?_
      refine gf_Md_127 (pc := 72) rfl dk_Md_island_72 ?_
      refine rn_icmp_ge (pc := 75) 133 dk_Md_island_75 (by decide) (fun c11 => ?_) (fun c11 => ?_)
      · exact rn_sub (by rfl) (hk_133 x3 x4 σ)
      · refine rn_aload_n (pc := 78) 0 dk_Md_island_78 rfl rfl rfl ?_
        refine gf_Md_56 (pc := 79) rfl dk_Md_island_79 ?_
        refine rn_aload_n (pc := 82) 0 dk_Md_island_82 rfl rfl rfl ?_
        refine gf_Md_130 (pc := 83) rfl dk_Md_island_83 ?_
        refine rn_aload_n (pc := 86) 0 dk_Md_island_86 rfl rfl rfl ?_
        refine gf_Md_124 (pc := 87) rfl dk_Md_island_87 ?_
        refine rn_iadd (pc := 90) dk_Md_island_90 ?_
        refine rn_laload (pc := 91) rfl dk_Md_island_91 (fun g12 => ?_)
        refine rn_l2i (pc := 92) dk_Md_island_92 ?_
        refine rn_bipush (pc := 93) (59 : Int32) dk_Md_island_93 cn_b_59 ?_
        refine rn_icmp_eq (pc := 95) 111 dk_Md_island_95 (by decide) (fun c13 => ?_) (fun c13 => ?_)
        · refine rn_aload_n (pc := 111) 0 dk_Md_island_111 rfl rfl rfl ?_
          refine rn_dup (pc := 112) dk_Md_island_112 rfl ?_
          refine gf_Md_124 (pc := 113) rfl dk_Md_island_113 ?_
          refine rn_iconst (pc := 116) (1 : Int32) dk_Md_island_116 cn_i_1 ?_
          refine rn_iadd (pc := 117) dk_Md_island_117 ?_
          refine pf_Md_124 (pc := 118) rfl dk_Md_island_118 ?_
          refine rn_lets (fun s14 => ?_)
          refine rn_iinc (pc := 121) (1 : Int32) dk_Md_island_121 cn_i_1 rfl rfl rfl ?_
          refine rn_aload_n (pc := 124) 0 dk_Md_island_124 rfl rfl rfl ?_
          refine cl_Md_171 (pc := 125) (As := []) (st := []) rfl (ct_Md_item X s14) (Nat.le_trans (Nat.le_of_ble_eq_true rfl) hF0) rfl rfl (Nat.le_of_ble_eq_true rfl) dk_Md_island_125 (fun q15 => ?_)
          refine rn_istore (pc := 128) dk_Md_island_128 rfl rfl ?_
          refine rn_goto (pc := 130) 62 dk_Md_island_130 (by decide) ?_
          exact rn_sub (by rfl) (ih (x3 + (1 : Int32)) q15.1 q15.2)
        · refine rn_aload_n (pc := 98) 0 dk_Md_island_98 rfl rfl rfl ?_
          refine rn_aload_n (pc := 99) 0 dk_Md_island_99 rfl rfl rfl ?_
          refine gf_Md_124 (pc := 100) rfl dk_Md_island_100 ?_
          refine cl_Md_140 (pc := 103) (As := [.int (σ.1 70 24)]) (st := []) rfl (ct_Md_wrong X (σ.1 70 24) σ) (Nat.le_trans (Nat.le_of_ble_eq_true rfl) hF0) rfl rfl (Nat.le_of_ble_eq_true rfl) dk_Md_island_103 (fun q16 => ?_)
          refine rn_istore (pc := 106) dk_Md_island_106 rfl rfl ?_
          refine rn_goto (pc := 108) 62 dk_Md_island_108 (by decide) ?_
          exact rn_sub (by rfl) (ih x3 q16.1 q16.2)
def Md_island_j133 (x3 : Int32) (x4 : Int32) (σ : nm_St) : Option (Int32 × nm_St) :=
  (if x4 = 0 then
    ((Md_all 87 (1 : Int32) σ).bind fun q21 =>
    (nm_let (nm_pI q21.2 70 6 (q21.2.1 70 27)) fun s22 =>
    ((Md_no (-6 : Int32) s22).bind fun q23 =>
    some (q23.1, q23.2))))
  else
    some (x3, σ))
set_option maxRecDepth 100000 in
set_option maxHeartbeats 4000000 in
theorem r_Md_island_j133 (X : nm_X) (F : nm_F) (hF0 : 3 ≤ nm_d F) (x3 : Int32) (x4 : Int32) (σ : nm_St) : Rn X mi_Md_island F (nm_Qf X F nm_wI) [(0, .ref 70), (3, .int x3), (4, .int x4)] [] 133 σ (Md_island_j133 x3 x4 σ) := by
  unfold Md_island_j133
  refine rn_iload (pc := 133) dk_Md_island_133 rfl ?_
  refine rn_if_eq (pc := 135) 140 dk_Md_island_135 (by decide) (fun c20 => ?_) (fun c20 => ?_)
  · refine rn_aload_n (pc := 140) 0 dk_Md_island_140 rfl rfl rfl ?_
    refine rn_aload_n (pc := 141) 0 dk_Md_island_141 rfl rfl rfl ?_
    refine gf_Md_72 (pc := 142) rfl dk_Md_island_142 ?_
    refine rn_iconst (pc := 145) (1 : Int32) dk_Md_island_145 cn_i_1 ?_
    refine cl_Md_167 (pc := 146) (As := [.ref 87, .int (1 : Int32)]) (st := []) rfl (ct_Md_all X 87 rfl (1 : Int32) σ) (Nat.le_trans (Nat.le_of_ble_eq_true rfl) hF0) rfl rfl (Nat.le_of_ble_eq_true rfl) dk_Md_island_146 (fun q21 => ?_)
    refine rn_aload_n (pc := 149) 0 dk_Md_island_149 rfl rfl rfl ?_
    refine rn_aload_n (pc := 150) 0 dk_Md_island_150 rfl rfl rfl ?_
    refine gf_Md_121 (pc := 151) rfl dk_Md_island_151 ?_
    refine pf_Md_19 (pc := 154) rfl dk_Md_island_154 ?_
    refine rn_lets (fun s22 => ?_)
    refine rn_aload_n (pc := 157) 0 dk_Md_island_157 rfl rfl rfl ?_
    refine rn_bipush (pc := 158) (-6 : Int32) dk_Md_island_158 cn_b_m6 ?_
    refine cl_Md_97 (pc := 160) (As := [.int (-6 : Int32)]) (st := []) rfl (ct_Md_no X (-6 : Int32) s22) (Nat.le_trans (Nat.le_of_ble_eq_true rfl) hF0) rfl rfl (Nat.le_of_ble_eq_true rfl) dk_Md_island_160 (fun q23 => ?_)
    exact rn_iret rfl dk_Md_island_163
  · refine rn_iload_n (pc := 138) 3 dk_Md_island_138 rfl rfl ?_
    exact rn_iret rfl dk_Md_island_139
def Md_island (p1 : Int32) (σ : nm_St) : Option (Int32 × nm_St) :=
  ((Md_wanted p1 σ).bind fun q1 =>
  (if q1.1 = 0 then
    ((Md_all 87 (0 : Int32) q1.2).bind fun q3 =>
    (nm_let (nm_pI q3.2 70 23 ((160 : Int32) * p1)) fun s4 =>
    (nm_let (nm_pI s4 70 24 (0 : Int32)) fun s5 =>
    (nm_g (nm_in p1 8) (
    (nm_let (nm_pI s5 70 25 (s5.1 80 p1.toNatClampNeg)) fun s7 =>
    (nm_let (nm_pI s7 70 6 (-1 : Int32)) fun s8 =>
    ((Md_item s8).bind fun q9 =>
    Md_island_l62 (fun (e18 : Int32) (e19 : Int32) (s17 : nm_St) =>
      Md_island_j133 e18 e19 s17) 400 (1 : Int32) q9.1 q9.2))))))))
  else
    ((Md_no q1.1 q1.2).bind fun q24 =>
    some (q24.1, q24.2))))
set_option maxRecDepth 100000 in
set_option maxHeartbeats 4000000 in
theorem ct_Md_island (X : nm_X) (p1 : Int32) (σ : nm_St) : Ct X mi_Md_island 3 nm_wI [.ref 70, .int p1] σ (Md_island p1 σ) := by
  refine Ct.of (by decide +kernel) rfl (fun F hF0 => ?_)
  unfold Md_island
  refine rn_aload_n (pc := 0) 0 dk_Md_island_0 rfl rfl rfl ?_
  refine rn_iload_n (pc := 1) 1 dk_Md_island_1 rfl rfl ?_
  refine cl_Md_164 (pc := 2) (As := [.int p1]) (st := []) rfl (ct_Md_wanted X p1 σ) (Nat.le_trans (Nat.le_of_ble_eq_true rfl) hF0) rfl rfl (Nat.le_of_ble_eq_true rfl) dk_Md_island_2 (fun q1 => ?_)
  refine rn_istore_n (pc := 5) 2 dk_Md_island_5 rfl rfl rfl ?_
  refine rn_iload_n (pc := 6) 2 dk_Md_island_6 rfl rfl ?_
  refine rn_if_eq (pc := 7) 16 dk_Md_island_7 (by decide) (fun c2 => ?_) (fun c2 => ?_)
  · refine rn_aload_n (pc := 16) 0 dk_Md_island_16 rfl rfl rfl ?_
    refine rn_aload_n (pc := 17) 0 dk_Md_island_17 rfl rfl rfl ?_
    refine gf_Md_72 (pc := 18) rfl dk_Md_island_18 ?_
    refine rn_iconst (pc := 21) (0 : Int32) dk_Md_island_21 cn_i_0 ?_
    refine cl_Md_167 (pc := 22) (As := [.ref 87, .int (0 : Int32)]) (st := []) rfl (ct_Md_all X 87 rfl (0 : Int32) q1.2) (Nat.le_trans (Nat.le_of_ble_eq_true rfl) hF0) rfl rfl (Nat.le_of_ble_eq_true rfl) dk_Md_island_22 (fun q3 => ?_)
    refine rn_aload_n (pc := 25) 0 dk_Md_island_25 rfl rfl rfl ?_
    refine rn_sipush (pc := 26) (160 : Int32) dk_Md_island_26 cn_s_160 ?_
    refine rn_iload_n (pc := 29) 1 dk_Md_island_29 rfl rfl ?_
    refine rn_imul (pc := 30) dk_Md_island_30 ?_
    refine pf_Md_130 (pc := 31) rfl dk_Md_island_31 ?_
    refine rn_lets (fun s4 => ?_)
    refine rn_aload_n (pc := 34) 0 dk_Md_island_34 rfl rfl rfl ?_
    refine rn_iconst (pc := 35) (0 : Int32) dk_Md_island_35 cn_i_0 ?_
    refine pf_Md_124 (pc := 36) rfl dk_Md_island_36 ?_
    refine rn_lets (fun s5 => ?_)
    refine rn_aload_n (pc := 39) 0 dk_Md_island_39 rfl rfl rfl ?_
    refine rn_aload_n (pc := 40) 0 dk_Md_island_40 rfl rfl rfl ?_
    refine gf_Md_50 (pc := 41) rfl dk_Md_island_41 ?_
    refine rn_iload_n (pc := 44) 1 dk_Md_island_44 rfl rfl ?_
    refine rn_iaload (pc := 45) rfl dk_Md_island_45 (fun g6 => ?_)
    refine pf_Md_127 (pc := 46) rfl dk_Md_island_46 ?_
    refine rn_lets (fun s7 => ?_)
    refine rn_aload_n (pc := 49) 0 dk_Md_island_49 rfl rfl rfl ?_
    refine rn_iconst (pc := 50) (-1 : Int32) dk_Md_island_50 cn_i_m1 ?_
    refine pf_Md_19 (pc := 51) rfl dk_Md_island_51 ?_
    refine rn_lets (fun s8 => ?_)
    refine rn_iconst (pc := 54) (1 : Int32) dk_Md_island_54 cn_i_1 ?_
    refine rn_istore_n (pc := 55) 3 dk_Md_island_55 rfl rfl rfl ?_
    refine rn_aload_n (pc := 56) 0 dk_Md_island_56 rfl rfl rfl ?_
    refine cl_Md_171 (pc := 57) (As := []) (st := []) rfl (ct_Md_item X s8) (Nat.le_trans (Nat.le_of_ble_eq_true rfl) hF0) rfl rfl (Nat.le_of_ble_eq_true rfl) dk_Md_island_57 (fun q9 => ?_)
    refine rn_istore (pc := 60) dk_Md_island_60 rfl rfl ?_
    refine rn_sub (by rfl) (r_Md_island_l62 X F hF0 _ (fun e18 e19 s17 => ?_) 400 (1 : Int32) q9.1 q9.2)
    exact rn_sub (by rfl) (r_Md_island_j133 X F hF0 e18 e19 s17)
  · refine rn_aload_n (pc := 10) 0 dk_Md_island_10 rfl rfl rfl ?_
    refine rn_iload_n (pc := 11) 2 dk_Md_island_11 rfl rfl ?_
    refine cl_Md_97 (pc := 12) (As := [.int q1.1]) (st := []) rfl (ct_Md_no X q1.1 q1.2) (Nat.le_trans (Nat.le_of_ble_eq_true rfl) hF0) rfl rfl (Nat.le_of_ble_eq_true rfl) dk_Md_island_12 (fun q24 => ?_)
    exact rn_iret rfl dk_Md_island_15
theorem dk_Md_fault_0 : decode mi_Md_fault.2.1 0 = .ok (.aload_n 0, 1) := by decide +kernel
theorem dk_Md_fault_1 : decode mi_Md_fault.2.1 1 = .ok (.getfield 19, 3) := by decide +kernel
theorem dk_Md_fault_4 : decode mi_Md_fault.2.1 4 = .ok (.ireturn, 1) := by decide +kernel
def Md_fault (σ : nm_St) : Option (Int32 × nm_St) :=
  some ((σ.1 70 6), σ)
set_option maxRecDepth 100000 in
set_option maxHeartbeats 4000000 in
theorem ct_Md_fault (X : nm_X) (σ : nm_St) : Ct X mi_Md_fault 0 nm_wI [.ref 70] σ (Md_fault σ) := by
  refine Ct.of (by decide +kernel) rfl (fun F hF0 => ?_)
  unfold Md_fault
  refine rn_aload_n (pc := 0) 0 dk_Md_fault_0 rfl rfl rfl ?_
  refine gf_Md_19 (pc := 1) rfl dk_Md_fault_1 ?_
  exact rn_iret rfl dk_Md_fault_4
theorem dk_Md_knownBy_0 : decode mi_Md_knownBy.2.1 0 = .ok (.iconst 0, 1) := by decide +kernel
theorem dk_Md_knownBy_1 : decode mi_Md_knownBy.2.1 1 = .ok (.istore_n 2, 1) := by decide +kernel
theorem dk_Md_knownBy_2 : decode mi_Md_knownBy.2.1 2 = .ok (.iconst 0, 1) := by decide +kernel
theorem dk_Md_knownBy_3 : decode mi_Md_knownBy.2.1 3 = .ok (.istore_n 3, 1) := by decide +kernel
theorem dk_Md_knownBy_4 : decode mi_Md_knownBy.2.1 4 = .ok (.iload_n 3, 1) := by decide +kernel
theorem dk_Md_knownBy_5 : decode mi_Md_knownBy.2.1 5 = .ok (.aload_n 0, 1) := by decide +kernel
theorem dk_Md_knownBy_6 : decode mi_Md_knownBy.2.1 6 = .ok (.getfield 90, 3) := by decide +kernel
theorem dk_Md_knownBy_9 : decode mi_Md_knownBy.2.1 9 = .ok (.if_icmp .ge 27, 3) := by decide +kernel
theorem dk_Md_knownBy_12 : decode mi_Md_knownBy.2.1 12 = .ok (.aload_n 0, 1) := by decide +kernel
theorem dk_Md_knownBy_13 : decode mi_Md_knownBy.2.1 13 = .ok (.iload_n 1, 1) := by decide +kernel
theorem dk_Md_knownBy_14 : decode mi_Md_knownBy.2.1 14 = .ok (.iload_n 3, 1) := by decide +kernel
theorem dk_Md_knownBy_15 : decode mi_Md_knownBy.2.1 15 = .ok (.invokevirtual 174, 3) := by decide +kernel
theorem dk_Md_knownBy_18 : decode mi_Md_knownBy.2.1 18 = .ok (.ifCond .eq 12, 3) := by decide +kernel
theorem dk_Md_knownBy_21 : decode mi_Md_knownBy.2.1 21 = .ok (.iload_n 2, 1) := by decide +kernel
theorem dk_Md_knownBy_22 : decode mi_Md_knownBy.2.1 22 = .ok (.aload_n 0, 1) := by decide +kernel
theorem dk_Md_knownBy_23 : decode mi_Md_knownBy.2.1 23 = .ok (.getfield 35, 3) := by decide +kernel
theorem dk_Md_knownBy_26 : decode mi_Md_knownBy.2.1 26 = .ok (.iload_n 3, 1) := by decide +kernel
theorem dk_Md_knownBy_27 : decode mi_Md_knownBy.2.1 27 = .ok (.iaload, 1) := by decide +kernel
theorem dk_Md_knownBy_28 : decode mi_Md_knownBy.2.1 28 = .ok (.ior, 1) := by decide +kernel
theorem dk_Md_knownBy_29 : decode mi_Md_knownBy.2.1 29 = .ok (.istore_n 2, 1) := by decide +kernel
theorem dk_Md_knownBy_30 : decode mi_Md_knownBy.2.1 30 = .ok (.iinc 3 1, 3) := by decide +kernel
theorem dk_Md_knownBy_33 : decode mi_Md_knownBy.2.1 33 = .ok (.goto (-29), 3) := by decide +kernel
theorem dk_Md_knownBy_36 : decode mi_Md_knownBy.2.1 36 = .ok (.iload_n 2, 1) := by decide +kernel
theorem dk_Md_knownBy_37 : decode mi_Md_knownBy.2.1 37 = .ok (.ireturn, 1) := by decide +kernel
def Md_knownBy_l4 (k_36 : Int32 → nm_St → Option (Int32 × nm_St)) : Nat → Int32 → Int32 → Int32 → nm_St → Option (Int32 × nm_St)
  | 0, _, _, _, _ => none
  | n + 1, x1, x2, x3, σ =>
    (if (σ.1 70 0) ≤ x3 then
      k_36 x2 σ
    else
      ((Md_has x1 x3 σ).bind fun q2 =>
      (if q2.1 = 0 then
        (Md_knownBy_l4 k_36 n) x1 x2 (x3 + (1 : Int32)) q2.2
      else
        (nm_g (nm_in x3 8) (
        (nm_let ((x2 ||| (q2.2.1 75 x3.toNatClampNeg))) fun v5 =>
        (Md_knownBy_l4 k_36 n) x1 v5 (x3 + (1 : Int32)) q2.2))))))
set_option maxRecDepth 100000 in
set_option maxHeartbeats 4000000 in
theorem r_Md_knownBy_l4 (X : nm_X) (F : nm_F) (hF0 : 1 ≤ nm_d F) (k_36 : Int32 → nm_St → Option (Int32 × nm_St)) (hk_36 : ∀ (x2 : Int32) (σ : nm_St), Rn X mi_Md_knownBy F (nm_Qf X F nm_wI) [(2, .int x2)] [] 36 σ (k_36 x2 σ)) : ∀ (n : Nat) (x1 : Int32) (x2 : Int32) (x3 : Int32) (σ : nm_St), Rn X mi_Md_knownBy F (nm_Qf X F nm_wI) [(0, .ref 70), (1, .int x1), (2, .int x2), (3, .int x3)] [] 4 σ (Md_knownBy_l4 k_36 n x1 x2 x3 σ) := by
  intro n
  induction n with
  | zero =>
    intro x1 x2 x3 σ
    exact rn_none
  | succ n ih =>
    intro x1 x2 x3 σ
    unfold Md_knownBy_l4
    refine rn_iload_n (pc := 4) 3 dk_Md_knownBy_4 rfl rfl ?_
    refine rn_aload_n (pc := 5) 0 dk_Md_knownBy_5 rfl rfl rfl ?_
    refine gf_Md_90 (pc := 6) rfl dk_Md_knownBy_6 ?_
    refine rn_icmp_ge (pc := 9) 36 dk_Md_knownBy_9 (by decide) (fun c1 => ?_) (fun c1 => ?_)
    · exact rn_sub (by rfl) (hk_36 x2 σ)
    · refine rn_aload_n (pc := 12) 0 dk_Md_knownBy_12 rfl rfl rfl ?_
      refine rn_iload_n (pc := 13) 1 dk_Md_knownBy_13 rfl rfl ?_
      refine rn_iload_n (pc := 14) 3 dk_Md_knownBy_14 rfl rfl ?_
      refine cl_Md_174 (pc := 15) (As := [.int x1, .int x3]) (st := []) rfl (ct_Md_has X x1 x3 σ) (Nat.le_trans (Nat.le_of_ble_eq_true rfl) hF0) rfl rfl (Nat.le_of_ble_eq_true rfl) dk_Md_knownBy_15 (fun q2 => ?_)
      refine rn_if_eq (pc := 18) 30 dk_Md_knownBy_18 (by decide) (fun c3 => ?_) (fun c3 => ?_)
      · refine rn_iinc (pc := 30) (1 : Int32) dk_Md_knownBy_30 cn_i_1 rfl rfl rfl ?_
        refine rn_goto (pc := 33) 4 dk_Md_knownBy_33 (by decide) ?_
        exact rn_sub (by rfl) (ih x1 x2 (x3 + (1 : Int32)) q2.2)
      · refine rn_iload_n (pc := 21) 2 dk_Md_knownBy_21 rfl rfl ?_
        refine rn_aload_n (pc := 22) 0 dk_Md_knownBy_22 rfl rfl rfl ?_
        refine gf_Md_35 (pc := 23) rfl dk_Md_knownBy_23 ?_
        refine rn_iload_n (pc := 26) 3 dk_Md_knownBy_26 rfl rfl ?_
        refine rn_iaload (pc := 27) rfl dk_Md_knownBy_27 (fun g4 => ?_)
        refine rn_ior (pc := 28) dk_Md_knownBy_28 ?_
        refine rn_leti (fun v5 => ?_)
        refine rn_istore_n (pc := 29) 2 dk_Md_knownBy_29 rfl rfl rfl ?_
        refine rn_iinc (pc := 30) (1 : Int32) dk_Md_knownBy_30 cn_i_1 rfl rfl rfl ?_
        refine rn_goto (pc := 33) 4 dk_Md_knownBy_33 (by decide) ?_
        exact rn_sub (by rfl) (ih x1 v5 (x3 + (1 : Int32)) q2.2)
def Md_knownBy (p1 : Int32) (σ : nm_St) : Option (Int32 × nm_St) :=
  Md_knownBy_l4 (fun (e7 : Int32) (s6 : nm_St) =>
    some (e7, s6)) 400 p1 (0 : Int32) (0 : Int32) σ
set_option maxRecDepth 100000 in
set_option maxHeartbeats 4000000 in
theorem ct_Md_knownBy (X : nm_X) (p1 : Int32) (σ : nm_St) : Ct X mi_Md_knownBy 1 nm_wI [.ref 70, .int p1] σ (Md_knownBy p1 σ) := by
  refine Ct.of (by decide +kernel) rfl (fun F hF0 => ?_)
  unfold Md_knownBy
  refine rn_iconst (pc := 0) (0 : Int32) dk_Md_knownBy_0 cn_i_0 ?_
  refine rn_istore_n (pc := 1) 2 dk_Md_knownBy_1 rfl rfl rfl ?_
  refine rn_iconst (pc := 2) (0 : Int32) dk_Md_knownBy_2 cn_i_0 ?_
  refine rn_istore_n (pc := 3) 3 dk_Md_knownBy_3 rfl rfl rfl ?_
  refine rn_sub (by rfl) (r_Md_knownBy_l4 X F hF0 _ (fun e7 s6 => ?_) 400 p1 (0 : Int32) (0 : Int32) σ)
  refine rn_iload_n (pc := 36) 2 dk_Md_knownBy_36 rfl rfl ?_
  exact rn_iret rfl dk_Md_knownBy_37
theorem dk_Md_isMade_0 : decode mi_Md_isMade.2.1 0 = .ok (.aload_n 0, 1) := by decide +kernel
theorem dk_Md_isMade_1 : decode mi_Md_isMade.2.1 1 = .ok (.iload_n 1, 1) := by decide +kernel
theorem dk_Md_isMade_2 : decode mi_Md_isMade.2.1 2 = .ok (.invokevirtual 180, 3) := by decide +kernel
theorem dk_Md_isMade_5 : decode mi_Md_isMade.2.1 5 = .ok (.iconst 1, 1) := by decide +kernel
theorem dk_Md_isMade_6 : decode mi_Md_isMade.2.1 6 = .ok (.aload_n 0, 1) := by decide +kernel
theorem dk_Md_isMade_7 : decode mi_Md_isMade.2.1 7 = .ok (.getfield 7, 3) := by decide +kernel
theorem dk_Md_isMade_10 : decode mi_Md_isMade.2.1 10 = .ok (.ishl, 1) := by decide +kernel
theorem dk_Md_isMade_11 : decode mi_Md_isMade.2.1 11 = .ok (.iconst 1, 1) := by decide +kernel
theorem dk_Md_isMade_12 : decode mi_Md_isMade.2.1 12 = .ok (.isub, 1) := by decide +kernel
theorem dk_Md_isMade_13 : decode mi_Md_isMade.2.1 13 = .ok (.if_icmp .ne 7, 3) := by decide +kernel
theorem dk_Md_isMade_16 : decode mi_Md_isMade.2.1 16 = .ok (.iconst 1, 1) := by decide +kernel
theorem dk_Md_isMade_17 : decode mi_Md_isMade.2.1 17 = .ok (.goto 4, 3) := by decide +kernel
theorem dk_Md_isMade_20 : decode mi_Md_isMade.2.1 20 = .ok (.iconst 0, 1) := by decide +kernel
theorem dk_Md_isMade_21 : decode mi_Md_isMade.2.1 21 = .ok (.ireturn, 1) := by decide +kernel
def Md_isMade (p1 : Int32) (σ : nm_St) : Option (Int32 × nm_St) :=
  ((Md_knownBy p1 σ).bind fun q1 =>
  (if q1.1 = (((1 : Int32) <<< ((q1.2.1 70 1) &&& 31)) - (1 : Int32)) then
    some ((1 : Int32), q1.2)
  else
    some ((0 : Int32), q1.2)))
set_option maxRecDepth 100000 in
set_option maxHeartbeats 4000000 in
theorem ct_Md_isMade (X : nm_X) (p1 : Int32) (σ : nm_St) : Ct X mi_Md_isMade 2 nm_wI [.ref 70, .int p1] σ (Md_isMade p1 σ) := by
  refine Ct.of (by decide +kernel) rfl (fun F hF0 => ?_)
  unfold Md_isMade
  refine rn_aload_n (pc := 0) 0 dk_Md_isMade_0 rfl rfl rfl ?_
  refine rn_iload_n (pc := 1) 1 dk_Md_isMade_1 rfl rfl ?_
  refine cl_Md_180 (pc := 2) (As := [.int p1]) (st := []) rfl (ct_Md_knownBy X p1 σ) (Nat.le_trans (Nat.le_of_ble_eq_true rfl) hF0) rfl rfl (Nat.le_of_ble_eq_true rfl) dk_Md_isMade_2 (fun q1 => ?_)
  refine rn_iconst (pc := 5) (1 : Int32) dk_Md_isMade_5 cn_i_1 ?_
  refine rn_aload_n (pc := 6) 0 dk_Md_isMade_6 rfl rfl rfl ?_
  refine gf_Md_7 (pc := 7) rfl dk_Md_isMade_7 ?_
  refine rn_ishl (pc := 10) dk_Md_isMade_10 ?_
  refine rn_iconst (pc := 11) (1 : Int32) dk_Md_isMade_11 cn_i_1 ?_
  refine rn_isub (pc := 12) dk_Md_isMade_12 ?_
  refine rn_icmp_ne (pc := 13) 20 dk_Md_isMade_13 (by decide) (fun c2 => ?_) (fun c2 => ?_)
  · refine rn_iconst (pc := 20) (0 : Int32) dk_Md_isMade_20 cn_i_0 ?_
    exact rn_zret (ty := .boolean) rfl rfl dk_Md_isMade_21
  · refine rn_iconst (pc := 16) (1 : Int32) dk_Md_isMade_16 cn_i_1 ?_
    refine rn_goto (pc := 17) 21 dk_Md_isMade_17 (by decide) ?_
    exact rn_zret (ty := .boolean) rfl rfl dk_Md_isMade_21
theorem dk_Md_those_0 : decode mi_Md_those.2.1 0 = .ok (.iconst 0, 1) := by decide +kernel
theorem dk_Md_those_1 : decode mi_Md_those.2.1 1 = .ok (.istore_n 2, 1) := by decide +kernel
theorem dk_Md_those_2 : decode mi_Md_those.2.1 2 = .ok (.iconst 0, 1) := by decide +kernel
theorem dk_Md_those_3 : decode mi_Md_those.2.1 3 = .ok (.istore_n 3, 1) := by decide +kernel
theorem dk_Md_those_4 : decode mi_Md_those.2.1 4 = .ok (.iload_n 3, 1) := by decide +kernel
theorem dk_Md_those_5 : decode mi_Md_those.2.1 5 = .ok (.aload_n 0, 1) := by decide +kernel
theorem dk_Md_those_6 : decode mi_Md_those.2.1 6 = .ok (.getfield 90, 3) := by decide +kernel
theorem dk_Md_those_9 : decode mi_Md_those.2.1 9 = .ok (.if_icmp .ge 25, 3) := by decide +kernel
theorem dk_Md_those_12 : decode mi_Md_those.2.1 12 = .ok (.aload_n 0, 1) := by decide +kernel
theorem dk_Md_those_13 : decode mi_Md_those.2.1 13 = .ok (.getfield 41, 3) := by decide +kernel
theorem dk_Md_those_16 : decode mi_Md_those.2.1 16 = .ok (.iload_n 3, 1) := by decide +kernel
theorem dk_Md_those_17 : decode mi_Md_those.2.1 17 = .ok (.iaload, 1) := by decide +kernel
theorem dk_Md_those_18 : decode mi_Md_those.2.1 18 = .ok (.iload_n 1, 1) := by decide +kernel
theorem dk_Md_those_19 : decode mi_Md_those.2.1 19 = .ok (.if_icmp .ne 9, 3) := by decide +kernel
theorem dk_Md_those_22 : decode mi_Md_those.2.1 22 = .ok (.iload_n 2, 1) := by decide +kernel
theorem dk_Md_those_23 : decode mi_Md_those.2.1 23 = .ok (.iconst 1, 1) := by decide +kernel
theorem dk_Md_those_24 : decode mi_Md_those.2.1 24 = .ok (.iload_n 3, 1) := by decide +kernel
theorem dk_Md_those_25 : decode mi_Md_those.2.1 25 = .ok (.ishl, 1) := by decide +kernel
theorem dk_Md_those_26 : decode mi_Md_those.2.1 26 = .ok (.ior, 1) := by decide +kernel
theorem dk_Md_those_27 : decode mi_Md_those.2.1 27 = .ok (.istore_n 2, 1) := by decide +kernel
theorem dk_Md_those_28 : decode mi_Md_those.2.1 28 = .ok (.iinc 3 1, 3) := by decide +kernel
theorem dk_Md_those_31 : decode mi_Md_those.2.1 31 = .ok (.goto (-27), 3) := by decide +kernel
theorem dk_Md_those_34 : decode mi_Md_those.2.1 34 = .ok (.iload_n 2, 1) := by decide +kernel
theorem dk_Md_those_35 : decode mi_Md_those.2.1 35 = .ok (.ireturn, 1) := by decide +kernel
def Md_those_l4 (k_34 : Int32 → nm_St → Option (Int32 × nm_St)) : Nat → Int32 → Int32 → Int32 → nm_St → Option (Int32 × nm_St)
  | 0, _, _, _, _ => none
  | n + 1, x1, x2, x3, σ =>
    (if (σ.1 70 0) ≤ x3 then
      k_34 x2 σ
    else
      (nm_g (nm_in x3 8) (
      (if (σ.1 77 x3.toNatClampNeg) = x1 then
        (nm_let ((x2 ||| ((1 : Int32) <<< (x3 &&& 31)))) fun v4 =>
        (Md_those_l4 k_34 n) x1 v4 (x3 + (1 : Int32)) σ)
      else
        (Md_those_l4 k_34 n) x1 x2 (x3 + (1 : Int32)) σ))))
set_option maxRecDepth 100000 in
set_option maxHeartbeats 4000000 in
theorem r_Md_those_l4 (X : nm_X) (F : nm_F) (hF0 : 0 ≤ nm_d F) (k_34 : Int32 → nm_St → Option (Int32 × nm_St)) (hk_34 : ∀ (x2 : Int32) (σ : nm_St), Rn X mi_Md_those F (nm_Qf X F nm_wI) [(2, .int x2)] [] 34 σ (k_34 x2 σ)) : ∀ (n : Nat) (x1 : Int32) (x2 : Int32) (x3 : Int32) (σ : nm_St), Rn X mi_Md_those F (nm_Qf X F nm_wI) [(0, .ref 70), (1, .int x1), (2, .int x2), (3, .int x3)] [] 4 σ (Md_those_l4 k_34 n x1 x2 x3 σ) := by
  intro n
  induction n with
  | zero =>
    intro x1 x2 x3 σ
    exact rn_none
  | succ n ih =>
    intro x1 x2 x3 σ
    unfold Md_those_l4
    refine rn_iload_n (pc := 4) 3 dk_Md_those_4 rfl rfl ?_
    refine rn_aload_n (pc := 5) 0 dk_Md_those_5 rfl rfl rfl ?_
    refine gf_Md_90 (pc := 6) rfl dk_Md_those_6 ?_
    refine rn_icmp_ge (pc := 9) 34 dk_Md_those_9 (by decide) (fun c1 => ?_) (fun c1 => ?_)
    · exact rn_sub (by rfl) (hk_34 x2 σ)
    · refine rn_aload_n (pc := 12) 0 dk_Md_those_12 rfl rfl rfl ?_
      refine gf_Md_41 (pc := 13) rfl dk_Md_those_13 ?_
      refine rn_iload_n (pc := 16) 3 dk_Md_those_16 rfl rfl ?_
      refine rn_iaload (pc := 17) rfl dk_Md_those_17 (fun g2 => ?_)
      refine rn_iload_n (pc := 18) 1 dk_Md_those_18 rfl rfl ?_
      refine rn_icmp_ne (pc := 19) 28 dk_Md_those_19 (by decide) (fun c3 => ?_) (fun c3 => ?_)
      · refine rn_iinc (pc := 28) (1 : Int32) dk_Md_those_28 cn_i_1 rfl rfl rfl ?_
        refine rn_goto (pc := 31) 4 dk_Md_those_31 (by decide) ?_
        exact rn_sub (by rfl) (ih x1 x2 (x3 + (1 : Int32)) σ)
      · refine rn_iload_n (pc := 22) 2 dk_Md_those_22 rfl rfl ?_
        refine rn_iconst (pc := 23) (1 : Int32) dk_Md_those_23 cn_i_1 ?_
        refine rn_iload_n (pc := 24) 3 dk_Md_those_24 rfl rfl ?_
        refine rn_ishl (pc := 25) dk_Md_those_25 ?_
        refine rn_ior (pc := 26) dk_Md_those_26 ?_
        refine rn_leti (fun v4 => ?_)
        refine rn_istore_n (pc := 27) 2 dk_Md_those_27 rfl rfl rfl ?_
        refine rn_iinc (pc := 28) (1 : Int32) dk_Md_those_28 cn_i_1 rfl rfl rfl ?_
        refine rn_goto (pc := 31) 4 dk_Md_those_31 (by decide) ?_
        exact rn_sub (by rfl) (ih x1 v4 (x3 + (1 : Int32)) σ)
def Md_those (p1 : Int32) (σ : nm_St) : Option (Int32 × nm_St) :=
  Md_those_l4 (fun (e6 : Int32) (s5 : nm_St) =>
    some (e6, s5)) 400 p1 (0 : Int32) (0 : Int32) σ
set_option maxRecDepth 100000 in
set_option maxHeartbeats 4000000 in
theorem ct_Md_those (X : nm_X) (p1 : Int32) (σ : nm_St) : Ct X mi_Md_those 0 nm_wI [.ref 70, .int p1] σ (Md_those p1 σ) := by
  refine Ct.of (by decide +kernel) rfl (fun F hF0 => ?_)
  unfold Md_those
  refine rn_iconst (pc := 0) (0 : Int32) dk_Md_those_0 cn_i_0 ?_
  refine rn_istore_n (pc := 1) 2 dk_Md_those_1 rfl rfl rfl ?_
  refine rn_iconst (pc := 2) (0 : Int32) dk_Md_those_2 cn_i_0 ?_
  refine rn_istore_n (pc := 3) 3 dk_Md_those_3 rfl rfl rfl ?_
  refine rn_sub (by rfl) (r_Md_those_l4 X F hF0 _ (fun e6 s5 => ?_) 400 p1 (0 : Int32) (0 : Int32) σ)
  refine rn_iload_n (pc := 34) 2 dk_Md_those_34 rfl rfl ?_
  exact rn_iret rfl dk_Md_those_35
theorem dk_Md_abroad_0 : decode mi_Md_abroad.2.1 0 = .ok (.iload_n 1, 1) := by decide +kernel
theorem dk_Md_abroad_1 : decode mi_Md_abroad.2.1 1 = .ok (.ifCond .lt 8, 3) := by decide +kernel
theorem dk_Md_abroad_4 : decode mi_Md_abroad.2.1 4 = .ok (.iload_n 1, 1) := by decide +kernel
theorem dk_Md_abroad_5 : decode mi_Md_abroad.2.1 5 = .ok (.iconst 1, 1) := by decide +kernel
theorem dk_Md_abroad_6 : decode mi_Md_abroad.2.1 6 = .ok (.if_icmp .le 10, 3) := by decide +kernel
theorem dk_Md_abroad_9 : decode mi_Md_abroad.2.1 9 = .ok (.aload_n 0, 1) := by decide +kernel
theorem dk_Md_abroad_10 : decode mi_Md_abroad.2.1 10 = .ok (.bipush (-5), 2) := by decide +kernel
theorem dk_Md_abroad_12 : decode mi_Md_abroad.2.1 12 = .ok (.invokevirtual 97, 3) := by decide +kernel
theorem dk_Md_abroad_15 : decode mi_Md_abroad.2.1 15 = .ok (.ireturn, 1) := by decide +kernel
theorem dk_Md_abroad_16 : decode mi_Md_abroad.2.1 16 = .ok (.aload_n 0, 1) := by decide +kernel
theorem dk_Md_abroad_17 : decode mi_Md_abroad.2.1 17 = .ok (.iconst 1, 1) := by decide +kernel
theorem dk_Md_abroad_18 : decode mi_Md_abroad.2.1 18 = .ok (.invokevirtual 183, 3) := by decide +kernel
theorem dk_Md_abroad_21 : decode mi_Md_abroad.2.1 21 = .ok (.istore_n 2, 1) := by decide +kernel
theorem dk_Md_abroad_22 : decode mi_Md_abroad.2.1 22 = .ok (.iload_n 1, 1) := by decide +kernel
theorem dk_Md_abroad_23 : decode mi_Md_abroad.2.1 23 = .ok (.ifCond .ne 19, 3) := by decide +kernel
theorem dk_Md_abroad_26 : decode mi_Md_abroad.2.1 26 = .ok (.aload_n 0, 1) := by decide +kernel
theorem dk_Md_abroad_27 : decode mi_Md_abroad.2.1 27 = .ok (.iload_n 2, 1) := by decide +kernel
theorem dk_Md_abroad_28 : decode mi_Md_abroad.2.1 28 = .ok (.invokevirtual 186, 3) := by decide +kernel
theorem dk_Md_abroad_31 : decode mi_Md_abroad.2.1 31 = .ok (.ifCond .eq 7, 3) := by decide +kernel
theorem dk_Md_abroad_34 : decode mi_Md_abroad.2.1 34 = .ok (.iconst 1, 1) := by decide +kernel
theorem dk_Md_abroad_35 : decode mi_Md_abroad.2.1 35 = .ok (.goto 23, 3) := by decide +kernel
theorem dk_Md_abroad_38 : decode mi_Md_abroad.2.1 38 = .ok (.iconst 0, 1) := by decide +kernel
theorem dk_Md_abroad_39 : decode mi_Md_abroad.2.1 39 = .ok (.goto 19, 3) := by decide +kernel
theorem dk_Md_abroad_42 : decode mi_Md_abroad.2.1 42 = .ok (.iconst 1, 1) := by decide +kernel
theorem dk_Md_abroad_43 : decode mi_Md_abroad.2.1 43 = .ok (.aload_n 0, 1) := by decide +kernel
theorem dk_Md_abroad_44 : decode mi_Md_abroad.2.1 44 = .ok (.getfield 7, 3) := by decide +kernel
theorem dk_Md_abroad_47 : decode mi_Md_abroad.2.1 47 = .ok (.ishl, 1) := by decide +kernel
theorem dk_Md_abroad_48 : decode mi_Md_abroad.2.1 48 = .ok (.iconst 1, 1) := by decide +kernel
theorem dk_Md_abroad_49 : decode mi_Md_abroad.2.1 49 = .ok (.isub, 1) := by decide +kernel
theorem dk_Md_abroad_50 : decode mi_Md_abroad.2.1 50 = .ok (.aload_n 0, 1) := by decide +kernel
theorem dk_Md_abroad_51 : decode mi_Md_abroad.2.1 51 = .ok (.iload_n 2, 1) := by decide +kernel
theorem dk_Md_abroad_52 : decode mi_Md_abroad.2.1 52 = .ok (.invokevirtual 180, 3) := by decide +kernel
theorem dk_Md_abroad_55 : decode mi_Md_abroad.2.1 55 = .ok (.iconst (-1), 1) := by decide +kernel
theorem dk_Md_abroad_56 : decode mi_Md_abroad.2.1 56 = .ok (.ixor, 1) := by decide +kernel
theorem dk_Md_abroad_57 : decode mi_Md_abroad.2.1 57 = .ok (.iand, 1) := by decide +kernel
theorem dk_Md_abroad_58 : decode mi_Md_abroad.2.1 58 = .ok (.ireturn, 1) := by decide +kernel
def Md_abroad (p1 : Int32) (σ : nm_St) : Option (Int32 × nm_St) :=
  (if p1 < 0 then
    ((Md_no (-5 : Int32) σ).bind fun q2 =>
    some (q2.1, q2.2))
  else
    (if p1 ≤ (1 : Int32) then
      ((Md_those (1 : Int32) σ).bind fun q4 =>
      (if p1 = 0 then
        ((Md_isMade q4.1 q4.2).bind fun q7 =>
        (if q7.1 = 0 then
          some ((0 : Int32), q7.2)
        else
          some ((1 : Int32), q7.2)))
      else
        ((Md_knownBy q4.1 q4.2).bind fun q6 =>
        some (((((1 : Int32) <<< ((q4.2.1 70 1) &&& 31)) - (1 : Int32)) &&& (q6.1 ^^^ (-1 : Int32))), q6.2))))
    else
      ((Md_no (-5 : Int32) σ).bind fun q9 =>
      some (q9.1, q9.2))))
set_option maxRecDepth 100000 in
set_option maxHeartbeats 4000000 in
theorem ct_Md_abroad (X : nm_X) (p1 : Int32) (σ : nm_St) : Ct X mi_Md_abroad 3 nm_wI [.ref 70, .int p1] σ (Md_abroad p1 σ) := by
  refine Ct.of (by decide +kernel) rfl (fun F hF0 => ?_)
  unfold Md_abroad
  refine rn_iload_n (pc := 0) 1 dk_Md_abroad_0 rfl rfl ?_
  refine rn_if_lt (pc := 1) 9 dk_Md_abroad_1 (by decide) (fun c1 => ?_) (fun c1 => ?_)
  · refine rn_aload_n (pc := 9) 0 dk_Md_abroad_9 rfl rfl rfl ?_
    refine rn_bipush (pc := 10) (-5 : Int32) dk_Md_abroad_10 cn_b_m5 ?_
    refine cl_Md_97 (pc := 12) (As := [.int (-5 : Int32)]) (st := []) rfl (ct_Md_no X (-5 : Int32) σ) (Nat.le_trans (Nat.le_of_ble_eq_true rfl) hF0) rfl rfl (Nat.le_of_ble_eq_true rfl) dk_Md_abroad_12 (fun q2 => ?_)
    exact rn_iret rfl dk_Md_abroad_15
  · refine rn_iload_n (pc := 4) 1 dk_Md_abroad_4 rfl rfl ?_
    refine rn_iconst (pc := 5) (1 : Int32) dk_Md_abroad_5 cn_i_1 ?_
    refine rn_icmp_le (pc := 6) 16 dk_Md_abroad_6 (by decide) (fun c3 => ?_) (fun c3 => ?_)
    · refine rn_aload_n (pc := 16) 0 dk_Md_abroad_16 rfl rfl rfl ?_
      refine rn_iconst (pc := 17) (1 : Int32) dk_Md_abroad_17 cn_i_1 ?_
      refine cl_Md_183 (pc := 18) (As := [.int (1 : Int32)]) (st := []) rfl (ct_Md_those X (1 : Int32) σ) (Nat.le_trans (Nat.le_of_ble_eq_true rfl) hF0) rfl rfl (Nat.le_of_ble_eq_true rfl) dk_Md_abroad_18 (fun q4 => ?_)
      refine rn_istore_n (pc := 21) 2 dk_Md_abroad_21 rfl rfl rfl ?_
      refine rn_iload_n (pc := 22) 1 dk_Md_abroad_22 rfl rfl ?_
      refine rn_if_ne (pc := 23) 42 dk_Md_abroad_23 (by decide) (fun c5 => ?_) (fun c5 => ?_)
      · refine rn_iconst (pc := 42) (1 : Int32) dk_Md_abroad_42 cn_i_1 ?_
        refine rn_aload_n (pc := 43) 0 dk_Md_abroad_43 rfl rfl rfl ?_
        refine gf_Md_7 (pc := 44) rfl dk_Md_abroad_44 ?_
        refine rn_ishl (pc := 47) dk_Md_abroad_47 ?_
        refine rn_iconst (pc := 48) (1 : Int32) dk_Md_abroad_48 cn_i_1 ?_
        refine rn_isub (pc := 49) dk_Md_abroad_49 ?_
        refine rn_aload_n (pc := 50) 0 dk_Md_abroad_50 rfl rfl rfl ?_
        refine rn_iload_n (pc := 51) 2 dk_Md_abroad_51 rfl rfl ?_
        refine cl_Md_180 (pc := 52) (As := [.int q4.1]) (st := [.int (((1 : Int32) <<< ((q4.2.1 70 1) &&& 31)) - (1 : Int32))]) rfl (ct_Md_knownBy X q4.1 q4.2) (Nat.le_trans (Nat.le_of_ble_eq_true rfl) hF0) rfl rfl (Nat.le_of_ble_eq_true rfl) dk_Md_abroad_52 (fun q6 => ?_)
        refine rn_iconst (pc := 55) (-1 : Int32) dk_Md_abroad_55 cn_i_m1 ?_
        refine rn_ixor (pc := 56) dk_Md_abroad_56 ?_
        refine rn_iand (pc := 57) dk_Md_abroad_57 ?_
        exact rn_iret rfl dk_Md_abroad_58
      · refine rn_aload_n (pc := 26) 0 dk_Md_abroad_26 rfl rfl rfl ?_
        refine rn_iload_n (pc := 27) 2 dk_Md_abroad_27 rfl rfl ?_
        refine cl_Md_186 (pc := 28) (As := [.int q4.1]) (st := []) rfl (ct_Md_isMade X q4.1 q4.2) (Nat.le_trans (Nat.le_of_ble_eq_true rfl) hF0) rfl rfl (Nat.le_of_ble_eq_true rfl) dk_Md_abroad_28 (fun q7 => ?_)
        refine rn_if_eq (pc := 31) 38 dk_Md_abroad_31 (by decide) (fun c8 => ?_) (fun c8 => ?_)
        · refine rn_iconst (pc := 38) (0 : Int32) dk_Md_abroad_38 cn_i_0 ?_
          refine rn_goto (pc := 39) 58 dk_Md_abroad_39 (by decide) ?_
          exact rn_iret rfl dk_Md_abroad_58
        · refine rn_iconst (pc := 34) (1 : Int32) dk_Md_abroad_34 cn_i_1 ?_
          refine rn_goto (pc := 35) 58 dk_Md_abroad_35 (by decide) ?_
          exact rn_iret rfl dk_Md_abroad_58
    · refine rn_aload_n (pc := 9) 0 dk_Md_abroad_9 rfl rfl rfl ?_
      refine rn_bipush (pc := 10) (-5 : Int32) dk_Md_abroad_10 cn_b_m5 ?_
      refine cl_Md_97 (pc := 12) (As := [.int (-5 : Int32)]) (st := []) rfl (ct_Md_no X (-5 : Int32) σ) (Nat.le_trans (Nat.le_of_ble_eq_true rfl) hF0) rfl rfl (Nat.le_of_ble_eq_true rfl) dk_Md_abroad_12 (fun q9 => ?_)
      exact rn_iret rfl dk_Md_abroad_15
