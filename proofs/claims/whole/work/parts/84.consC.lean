/-- what NoneMayLeaveModel() leaves, newest first -/
def pn_Md_init (Y : kn_Y) (h0 : Nat) (w : va_W) : Prop := ∃ q1 q2 q3 q4 q5 q6 q7 q8 q9 q10 q11 q12 q13 q14 q15 q16 q17 q18 q19 q20 q21 q22 : Nat, w = [(q22, .inl (kn_cI Y, (20, .inl (fun _ => 0)))), (q21, .inl (kn_cI Y, (2, .inl (fun _ => 0)))), (q20, .inl (kn_cI Y, (2, .inl (fun _ => 0)))), (q19, .inl (kn_cI Y, (60, .inl (fun _ => 0)))), (q18, .inl (kn_cI Y, (60, .inl (fun _ => 0)))), (q17, .inl (kn_cI Y, (60, .inl (fun _ => 0)))), (q16, .inl (kn_cI Y, (3, .inl (fun _ => 0)))), (q15, .inl (kn_cI Y, (8, .inl (upd (upd (upd (upd (upd (upd (upd (upd (fun _ => 0) 0 1) 1 3) 2 2) 3 2) 4 1) 5 1) 6 1) 7 1)))), (q14, .inl (kn_cI Y, (51, .inl (upd (upd (upd (upd (upd (upd (upd (upd (upd (upd (upd (upd (upd (upd (upd (upd (upd (upd (upd (upd (upd (upd (upd (upd (upd (upd (upd (upd (upd (upd (upd (upd (upd (upd (upd (upd (upd (upd (upd (upd (upd (upd (upd (upd (upd (upd (upd (upd (upd (upd (upd (fun _ => 0) 0 112) 1 97) 2 114) 3 116) 4 115) 5 32) 6 0) 7 109) 8 97) 9 107) 10 101) 11 114) 12 32) 13 0) 14 107) 15 110) 16 111) 17 119) 18 115) 19 32) 20 0) 21 107) 22 105) 23 110) 24 32) 25 0) 26 102) 27 101) 28 97) 29 114) 30 32) 31 0) 32 112) 33 117) 34 114) 35 115) 36 101) 37 32) 38 0) 39 103) 40 111) 41 101) 42 115) 43 32) 44 0) 45 100) 46 105) 47 101) 48 115) 49 32) 50 0)))), (q13, .inl (kn_cJ Y, (160, .inr (.inl (fun _ => 0))))), (q12, .inl (kn_cJ Y, (1280, .inr (.inl (fun _ => 0))))), (q11, .inl (kn_cI Y, (8, .inl (fun _ => 0)))), (q10, .inl (kn_cI Y, (8, .inl (fun _ => 0)))), (q9, .inl (kn_cI Y, (8, .inl (fun _ => 0)))), (q8, .inl (kn_cI Y, (8, .inl (fun _ => 0)))), (q7, .inl (kn_cI Y, (8, .inl (fun _ => 0)))), (q6, .inl (kn_cI Y, (8, .inl (fun _ => 0)))), (q5, .inl (kn_cI Y, (8, .inl (fun _ => 0)))), (q4, .inl (kn_cI Y, (8, .inl (fun _ => 0)))), (q3, .inl (kn_cI Y, (8, .inl (fun _ => 0)))), (q2, .inl (kn_cI Y, (8, .inl (fun _ => 0)))), (q1, .inl (kn_cI Y, (8, .inl (fun _ => 0)))), (h0, .inr (7, [.int 0, .int 4, .int 0, .int 100, .int 0, .int 1, .int (-1 : Int32), .ref q1, .ref q2, .ref q3, .ref q4, .ref q5, .ref q6, .ref q7, .ref q8, .ref q9, .ref q10, .ref q11, .ref q12, .ref q13, .ref q14, .ref q15, .ref q16, .int 0, .int 0, .int 0, .int 0, .int 0, .ref q17, .ref q18, .ref q19, .ref q20, .ref q21, .int 0, .ref q22, .int 0, .int 0]))]
set_option maxRecDepth 100000 in
set_option maxHeartbeats 8000000 in
theorem kc_Md_init {Y : kn_Y} : KC Y mi_Md_init 1 7 [.int 0, .int 0, .int 0, .int 0, .int 0, .int 0, .int 0, .null, .null, .null, .null, .null, .null, .null, .null, .null, .null, .null, .null, .null, .null, .null, .null, .int 0, .int 0, .int 0, .int 0, .int 0, .null, .null, .null, .null, .null, .int 0, .null, .int 0, .int 0] (pn_Md_init Y) 22 1794 := by
  refine KC.of (by decide +kernel) rfl (fun F h0 rest hF0 hmc hms => ?_)
  refine kn_aload_n (pc := 0) 0 0 dk_Md_init_0 rfl rfl ?_
  refine kn_obj (pc := 1) wd_1056 kb_o1 kb_o2 (Nat.le_trans (Nat.le_of_ble_eq_true rfl) hF0) dk_Md_init_1 ?_
  refine kn_aload_n (pc := 4) 0 0 dk_Md_init_4 rfl rfl ?_
  refine kn_iconst (pc := 5) (4 : Int32) dk_Md_init_5 cn_i_4 ?_
  refine kn_put (pc := 6) (q0 := 0) (C := RX7) (T := TX7) (N := 37) (t := 7) (j := 1) tyX7 tyX7_ok nmX7 rfl nm_nd7 (by decide) rfl rfl (tyX7_ok 1 (by decide)) rfl rfl (Nat.le_of_ble_eq_true rfl) wd_1058 dk_Md_init_6 ?_
  refine kn_aload_n (pc := 9) 0 0 dk_Md_init_9 rfl rfl ?_
  refine kn_bipush (pc := 10) (100 : Int32) dk_Md_init_10 cn_b_100 ?_
  refine kn_put (pc := 12) (q0 := 0) (C := RX7) (T := TX7) (N := 37) (t := 7) (j := 3) tyX7 tyX7_ok nmX7 rfl nm_nd7 (by decide) rfl rfl (tyX7_ok 3 (by decide)) rfl rfl (Nat.le_of_ble_eq_true rfl) wd_1060 dk_Md_init_12 ?_
  refine kn_aload_n (pc := 15) 0 0 dk_Md_init_15 rfl rfl ?_
  refine kn_iconst (pc := 16) (1 : Int32) dk_Md_init_16 cn_i_1 ?_
  refine kn_put (pc := 17) (q0 := 0) (C := RX7) (T := TX7) (N := 37) (t := 7) (j := 5) tyX7 tyX7_ok nmX7 rfl nm_nd7 (by decide) rfl rfl (tyX7_ok 5 (by decide)) rfl rfl (Nat.le_of_ble_eq_true rfl) wd_1062 dk_Md_init_17 ?_
  refine kn_aload_n (pc := 20) 0 0 dk_Md_init_20 rfl rfl ?_
  refine kn_iconst (pc := 21) (-1 : Int32) dk_Md_init_21 cn_i_m1 ?_
  refine kn_put (pc := 22) (q0 := 0) (C := RX7) (T := TX7) (N := 37) (t := 7) (j := 6) tyX7 tyX7_ok nmX7 rfl nm_nd7 (by decide) rfl rfl (tyX7_ok 6 (by decide)) rfl rfl (Nat.le_of_ble_eq_true rfl) wd_1063 dk_Md_init_22 ?_
  refine kn_aload_n (pc := 25) 0 0 dk_Md_init_25 rfl rfl ?_
  refine kn_bipush (pc := 26) (8 : Int32) dk_Md_init_26 cn_b_8 ?_
  refine kn_newI (pc := 28) 8 wd_160 (by decide +kernel) (by decide +kernel) (by decide +kernel) (by rw [hmc]; exact Nat.le_of_ble_eq_true rfl) (by rw [hms]; exact Nat.le_of_ble_eq_true rfl) dk_Md_init_28 (fun q1 => ?_)
  refine kn_putF (pc := 30) (q0 := 1) (C := RX7) (T := TX7) (N := 37) (t := 7) (j := 7) tyX7 tyX7_ok nmX7 rfl nm_nd7 (by decide) rfl rfl rfl rfl (tyX7_ok 7 (by decide)) rfl rfl (Nat.le_of_ble_eq_true rfl) wd_1064 dk_Md_init_30 ?_
  refine kn_eq (ws' := (q1, .inl (kn_cI Y, (8, .inl (fun _ => 0)))) :: (h0, .inr (7, [.int 0, .int 4, .int 0, .int 100, .int 0, .int 1, .int (-1 : Int32), .ref q1, .null, .null, .null, .null, .null, .null, .null, .null, .null, .null, .null, .null, .null, .null, .null, .int 0, .int 0, .int 0, .int 0, .int 0, .null, .null, .null, .null, .null, .int 0, .null, .int 0, .int 0])) :: rest) (by rfl) ?_
  refine kn_aload_n (pc := 33) 0 0 dk_Md_init_33 rfl rfl ?_
  refine kn_bipush (pc := 34) (8 : Int32) dk_Md_init_34 cn_b_8 ?_
  refine kn_newI (pc := 36) 8 wd_160 (by decide +kernel) (by decide +kernel) (by decide +kernel) (by rw [hmc]; exact Nat.le_of_ble_eq_true rfl) (by rw [hms]; exact Nat.le_of_ble_eq_true rfl) dk_Md_init_36 (fun q2 => ?_)
  refine kn_putF (pc := 38) (q0 := 2) (C := RX7) (T := TX7) (N := 37) (t := 7) (j := 8) tyX7 tyX7_ok nmX7 rfl nm_nd7 (by decide) rfl rfl rfl rfl (tyX7_ok 8 (by decide)) rfl rfl (Nat.le_of_ble_eq_true rfl) wd_1065 dk_Md_init_38 ?_
  refine kn_aload_n (pc := 41) 0 0 dk_Md_init_41 rfl rfl ?_
  refine kn_bipush (pc := 42) (8 : Int32) dk_Md_init_42 cn_b_8 ?_
  refine kn_newI (pc := 44) 8 wd_160 (by decide +kernel) (by decide +kernel) (by decide +kernel) (by rw [hmc]; exact Nat.le_of_ble_eq_true rfl) (by rw [hms]; exact Nat.le_of_ble_eq_true rfl) dk_Md_init_44 (fun q3 => ?_)
  refine kn_putF (pc := 46) (q0 := 3) (C := RX7) (T := TX7) (N := 37) (t := 7) (j := 9) tyX7 tyX7_ok nmX7 rfl nm_nd7 (by decide) rfl rfl rfl rfl (tyX7_ok 9 (by decide)) rfl rfl (Nat.le_of_ble_eq_true rfl) wd_1066 dk_Md_init_46 ?_
  refine kn_aload_n (pc := 49) 0 0 dk_Md_init_49 rfl rfl ?_
  refine kn_bipush (pc := 50) (8 : Int32) dk_Md_init_50 cn_b_8 ?_
  refine kn_newI (pc := 52) 8 wd_160 (by decide +kernel) (by decide +kernel) (by decide +kernel) (by rw [hmc]; exact Nat.le_of_ble_eq_true rfl) (by rw [hms]; exact Nat.le_of_ble_eq_true rfl) dk_Md_init_52 (fun q4 => ?_)
  refine kn_putF (pc := 54) (q0 := 4) (C := RX7) (T := TX7) (N := 37) (t := 7) (j := 10) tyX7 tyX7_ok nmX7 rfl nm_nd7 (by decide) rfl rfl rfl rfl (tyX7_ok 10 (by decide)) rfl rfl (Nat.le_of_ble_eq_true rfl) wd_1067 dk_Md_init_54 ?_
  refine kn_aload_n (pc := 57) 0 0 dk_Md_init_57 rfl rfl ?_
  refine kn_bipush (pc := 58) (8 : Int32) dk_Md_init_58 cn_b_8 ?_
  refine kn_newI (pc := 60) 8 wd_160 (by decide +kernel) (by decide +kernel) (by decide +kernel) (by rw [hmc]; exact Nat.le_of_ble_eq_true rfl) (by rw [hms]; exact Nat.le_of_ble_eq_true rfl) dk_Md_init_60 (fun q5 => ?_)
  refine kn_putF (pc := 62) (q0 := 5) (C := RX7) (T := TX7) (N := 37) (t := 7) (j := 11) tyX7 tyX7_ok nmX7 rfl nm_nd7 (by decide) rfl rfl rfl rfl (tyX7_ok 11 (by decide)) rfl rfl (Nat.le_of_ble_eq_true rfl) wd_1068 dk_Md_init_62 ?_
  refine kn_aload_n (pc := 65) 0 0 dk_Md_init_65 rfl rfl ?_
  refine kn_bipush (pc := 66) (8 : Int32) dk_Md_init_66 cn_b_8 ?_
  refine kn_newI (pc := 68) 8 wd_160 (by decide +kernel) (by decide +kernel) (by decide +kernel) (by rw [hmc]; exact Nat.le_of_ble_eq_true rfl) (by rw [hms]; exact Nat.le_of_ble_eq_true rfl) dk_Md_init_68 (fun q6 => ?_)
  refine kn_putF (pc := 70) (q0 := 6) (C := RX7) (T := TX7) (N := 37) (t := 7) (j := 12) tyX7 tyX7_ok nmX7 rfl nm_nd7 (by decide) rfl rfl rfl rfl (tyX7_ok 12 (by decide)) rfl rfl (Nat.le_of_ble_eq_true rfl) wd_1069 dk_Md_init_70 ?_
  refine kn_eq (ws' := (q6, .inl (kn_cI Y, (8, .inl (fun _ => 0)))) :: (q5, .inl (kn_cI Y, (8, .inl (fun _ => 0)))) :: (q4, .inl (kn_cI Y, (8, .inl (fun _ => 0)))) :: (q3, .inl (kn_cI Y, (8, .inl (fun _ => 0)))) :: (q2, .inl (kn_cI Y, (8, .inl (fun _ => 0)))) :: (q1, .inl (kn_cI Y, (8, .inl (fun _ => 0)))) :: (h0, .inr (7, [.int 0, .int 4, .int 0, .int 100, .int 0, .int 1, .int (-1 : Int32), .ref q1, .ref q2, .ref q3, .ref q4, .ref q5, .ref q6, .null, .null, .null, .null, .null, .null, .null, .null, .null, .null, .int 0, .int 0, .int 0, .int 0, .int 0, .null, .null, .null, .null, .null, .int 0, .null, .int 0, .int 0])) :: rest) (by rfl) ?_
  refine kn_aload_n (pc := 73) 0 0 dk_Md_init_73 rfl rfl ?_
  refine kn_bipush (pc := 74) (8 : Int32) dk_Md_init_74 cn_b_8 ?_
  refine kn_newI (pc := 76) 8 wd_160 (by decide +kernel) (by decide +kernel) (by decide +kernel) (by rw [hmc]; exact Nat.le_of_ble_eq_true rfl) (by rw [hms]; exact Nat.le_of_ble_eq_true rfl) dk_Md_init_76 (fun q7 => ?_)
  refine kn_putF (pc := 78) (q0 := 7) (C := RX7) (T := TX7) (N := 37) (t := 7) (j := 13) tyX7 tyX7_ok nmX7 rfl nm_nd7 (by decide) rfl rfl rfl rfl (tyX7_ok 13 (by decide)) rfl rfl (Nat.le_of_ble_eq_true rfl) wd_1070 dk_Md_init_78 ?_
  refine kn_aload_n (pc := 81) 0 0 dk_Md_init_81 rfl rfl ?_
  refine kn_bipush (pc := 82) (8 : Int32) dk_Md_init_82 cn_b_8 ?_
  refine kn_newI (pc := 84) 8 wd_160 (by decide +kernel) (by decide +kernel) (by decide +kernel) (by rw [hmc]; exact Nat.le_of_ble_eq_true rfl) (by rw [hms]; exact Nat.le_of_ble_eq_true rfl) dk_Md_init_84 (fun q8 => ?_)
  refine kn_putF (pc := 86) (q0 := 8) (C := RX7) (T := TX7) (N := 37) (t := 7) (j := 14) tyX7 tyX7_ok nmX7 rfl nm_nd7 (by decide) rfl rfl rfl rfl (tyX7_ok 14 (by decide)) rfl rfl (Nat.le_of_ble_eq_true rfl) wd_1071 dk_Md_init_86 ?_
  refine kn_aload_n (pc := 89) 0 0 dk_Md_init_89 rfl rfl ?_
  refine kn_bipush (pc := 90) (8 : Int32) dk_Md_init_90 cn_b_8 ?_
  refine kn_newI (pc := 92) 8 wd_160 (by decide +kernel) (by decide +kernel) (by decide +kernel) (by rw [hmc]; exact Nat.le_of_ble_eq_true rfl) (by rw [hms]; exact Nat.le_of_ble_eq_true rfl) dk_Md_init_92 (fun q9 => ?_)
  refine kn_putF (pc := 94) (q0 := 9) (C := RX7) (T := TX7) (N := 37) (t := 7) (j := 15) tyX7 tyX7_ok nmX7 rfl nm_nd7 (by decide) rfl rfl rfl rfl (tyX7_ok 15 (by decide)) rfl rfl (Nat.le_of_ble_eq_true rfl) wd_1072 dk_Md_init_94 ?_
  refine kn_aload_n (pc := 97) 0 0 dk_Md_init_97 rfl rfl ?_
  refine kn_bipush (pc := 98) (8 : Int32) dk_Md_init_98 cn_b_8 ?_
  refine kn_newI (pc := 100) 8 wd_160 (by decide +kernel) (by decide +kernel) (by decide +kernel) (by rw [hmc]; exact Nat.le_of_ble_eq_true rfl) (by rw [hms]; exact Nat.le_of_ble_eq_true rfl) dk_Md_init_100 (fun q10 => ?_)
  refine kn_putF (pc := 102) (q0 := 10) (C := RX7) (T := TX7) (N := 37) (t := 7) (j := 16) tyX7 tyX7_ok nmX7 rfl nm_nd7 (by decide) rfl rfl rfl rfl (tyX7_ok 16 (by decide)) rfl rfl (Nat.le_of_ble_eq_true rfl) wd_1073 dk_Md_init_102 ?_
  refine kn_aload_n (pc := 105) 0 0 dk_Md_init_105 rfl rfl ?_
  refine kn_bipush (pc := 106) (8 : Int32) dk_Md_init_106 cn_b_8 ?_
  refine kn_newI (pc := 108) 8 wd_160 (by decide +kernel) (by decide +kernel) (by decide +kernel) (by rw [hmc]; exact Nat.le_of_ble_eq_true rfl) (by rw [hms]; exact Nat.le_of_ble_eq_true rfl) dk_Md_init_108 (fun q11 => ?_)
  refine kn_putF (pc := 110) (q0 := 11) (C := RX7) (T := TX7) (N := 37) (t := 7) (j := 17) tyX7 tyX7_ok nmX7 rfl nm_nd7 (by decide) rfl rfl rfl rfl (tyX7_ok 17 (by decide)) rfl rfl (Nat.le_of_ble_eq_true rfl) wd_1074 dk_Md_init_110 ?_
  refine kn_eq (ws' := (q11, .inl (kn_cI Y, (8, .inl (fun _ => 0)))) :: (q10, .inl (kn_cI Y, (8, .inl (fun _ => 0)))) :: (q9, .inl (kn_cI Y, (8, .inl (fun _ => 0)))) :: (q8, .inl (kn_cI Y, (8, .inl (fun _ => 0)))) :: (q7, .inl (kn_cI Y, (8, .inl (fun _ => 0)))) :: (q6, .inl (kn_cI Y, (8, .inl (fun _ => 0)))) :: (q5, .inl (kn_cI Y, (8, .inl (fun _ => 0)))) :: (q4, .inl (kn_cI Y, (8, .inl (fun _ => 0)))) :: (q3, .inl (kn_cI Y, (8, .inl (fun _ => 0)))) :: (q2, .inl (kn_cI Y, (8, .inl (fun _ => 0)))) :: (q1, .inl (kn_cI Y, (8, .inl (fun _ => 0)))) :: (h0, .inr (7, [.int 0, .int 4, .int 0, .int 100, .int 0, .int 1, .int (-1 : Int32), .ref q1, .ref q2, .ref q3, .ref q4, .ref q5, .ref q6, .ref q7, .ref q8, .ref q9, .ref q10, .ref q11, .null, .null, .null, .null, .null, .int 0, .int 0, .int 0, .int 0, .int 0, .null, .null, .null, .null, .null, .int 0, .null, .int 0, .int 0])) :: rest) (by rfl) ?_
  refine kn_aload_n (pc := 113) 0 0 dk_Md_init_113 rfl rfl ?_
  refine kn_sipush (pc := 114) (1280 : Int32) dk_Md_init_114 cn_s_1280 ?_
  refine kn_newJ (pc := 117) 1280 wd_286 (by decide +kernel) (by decide +kernel) (by decide +kernel) (by rw [hmc]; exact Nat.le_of_ble_eq_true rfl) (by rw [hms]; exact Nat.le_of_ble_eq_true rfl) dk_Md_init_117 (fun q12 => ?_)
  refine kn_putF (pc := 119) (q0 := 12) (C := RX7) (T := TX7) (N := 37) (t := 7) (j := 18) tyX7 tyX7_ok nmX7 rfl nm_nd7 (by decide) rfl rfl rfl rfl (tyX7_ok 18 (by decide)) rfl rfl (Nat.le_of_ble_eq_true rfl) wd_1075 dk_Md_init_119 ?_
  refine kn_aload_n (pc := 122) 0 0 dk_Md_init_122 rfl rfl ?_
  refine kn_sipush (pc := 123) (160 : Int32) dk_Md_init_123 cn_s_160 ?_
  refine kn_newJ (pc := 126) 160 wd_286 (by decide +kernel) (by decide +kernel) (by decide +kernel) (by rw [hmc]; exact Nat.le_of_ble_eq_true rfl) (by rw [hms]; exact Nat.le_of_ble_eq_true rfl) dk_Md_init_126 (fun q13 => ?_)
  refine kn_putF (pc := 128) (q0 := 13) (C := RX7) (T := TX7) (N := 37) (t := 7) (j := 19) tyX7 tyX7_ok nmX7 rfl nm_nd7 (by decide) rfl rfl rfl rfl (tyX7_ok 19 (by decide)) rfl rfl (Nat.le_of_ble_eq_true rfl) wd_1076 dk_Md_init_128 ?_
  refine kn_aload_n (pc := 131) 0 0 dk_Md_init_131 rfl rfl ?_
  refine kn_bipush (pc := 132) (51 : Int32) dk_Md_init_132 cn_b_51 ?_
  refine kn_newI (pc := 134) 51 wd_160 (by decide +kernel) (by decide +kernel) (by decide +kernel) (by rw [hmc]; exact Nat.le_of_ble_eq_true rfl) (by rw [hms]; exact Nat.le_of_ble_eq_true rfl) dk_Md_init_134 (fun q14 => ?_)
  refine kn_dup (pc := 136) dk_Md_init_136 rfl ?_
  refine kn_iconst (pc := 137) (0 : Int32) dk_Md_init_137 cn_i_0 ?_
  refine kn_bipush (pc := 138) (112 : Int32) dk_Md_init_138 cn_b_112 ?_
  refine kn_iastore (pc := 140) (q0 := 0) 0 rfl (by unfold vp_in; decide +kernel) (by decide +kernel) dk_Md_init_140 ?_
  refine kn_dup (pc := 141) dk_Md_init_141 rfl ?_
  refine kn_iconst (pc := 142) (1 : Int32) dk_Md_init_142 cn_i_1 ?_
  refine kn_bipush (pc := 143) (97 : Int32) dk_Md_init_143 cn_b_97 ?_
  refine kn_iastore (pc := 145) (q0 := 0) 1 rfl (by unfold vp_in; decide +kernel) (by decide +kernel) dk_Md_init_145 ?_
  refine kn_dup (pc := 146) dk_Md_init_146 rfl ?_
  refine kn_iconst (pc := 147) (2 : Int32) dk_Md_init_147 cn_i_2 ?_
  refine kn_bipush (pc := 148) (114 : Int32) dk_Md_init_148 cn_b_114 ?_
  refine kn_iastore (pc := 150) (q0 := 0) 2 rfl (by unfold vp_in; decide +kernel) (by decide +kernel) dk_Md_init_150 ?_
  refine kn_eq (ws' := (q14, .inl (kn_cI Y, (51, .inl (upd (upd (upd (fun _ => 0) 0 112) 1 97) 2 114)))) :: (q13, .inl (kn_cJ Y, (160, .inr (.inl (fun _ => 0))))) :: (q12, .inl (kn_cJ Y, (1280, .inr (.inl (fun _ => 0))))) :: (q11, .inl (kn_cI Y, (8, .inl (fun _ => 0)))) :: (q10, .inl (kn_cI Y, (8, .inl (fun _ => 0)))) :: (q9, .inl (kn_cI Y, (8, .inl (fun _ => 0)))) :: (q8, .inl (kn_cI Y, (8, .inl (fun _ => 0)))) :: (q7, .inl (kn_cI Y, (8, .inl (fun _ => 0)))) :: (q6, .inl (kn_cI Y, (8, .inl (fun _ => 0)))) :: (q5, .inl (kn_cI Y, (8, .inl (fun _ => 0)))) :: (q4, .inl (kn_cI Y, (8, .inl (fun _ => 0)))) :: (q3, .inl (kn_cI Y, (8, .inl (fun _ => 0)))) :: (q2, .inl (kn_cI Y, (8, .inl (fun _ => 0)))) :: (q1, .inl (kn_cI Y, (8, .inl (fun _ => 0)))) :: (h0, .inr (7, [.int 0, .int 4, .int 0, .int 100, .int 0, .int 1, .int (-1 : Int32), .ref q1, .ref q2, .ref q3, .ref q4, .ref q5, .ref q6, .ref q7, .ref q8, .ref q9, .ref q10, .ref q11, .ref q12, .ref q13, .null, .null, .null, .int 0, .int 0, .int 0, .int 0, .int 0, .null, .null, .null, .null, .null, .int 0, .null, .int 0, .int 0])) :: rest) (by rfl) ?_
  refine kn_dup (pc := 151) dk_Md_init_151 rfl ?_
  refine kn_iconst (pc := 152) (3 : Int32) dk_Md_init_152 cn_i_3 ?_
  refine kn_bipush (pc := 153) (116 : Int32) dk_Md_init_153 cn_b_116 ?_
  refine kn_iastore (pc := 155) (q0 := 0) 3 rfl (by unfold vp_in; decide +kernel) (by decide +kernel) dk_Md_init_155 ?_
  refine kn_dup (pc := 156) dk_Md_init_156 rfl ?_
  refine kn_iconst (pc := 157) (4 : Int32) dk_Md_init_157 cn_i_4 ?_
  refine kn_bipush (pc := 158) (115 : Int32) dk_Md_init_158 cn_b_115 ?_
  refine kn_iastore (pc := 160) (q0 := 0) 4 rfl (by unfold vp_in; decide +kernel) (by decide +kernel) dk_Md_init_160 ?_
  refine kn_dup (pc := 161) dk_Md_init_161 rfl ?_
  refine kn_iconst (pc := 162) (5 : Int32) dk_Md_init_162 cn_i_5 ?_
  refine kn_bipush (pc := 163) (32 : Int32) dk_Md_init_163 cn_b_32 ?_
  refine kn_iastore (pc := 165) (q0 := 0) 5 rfl (by unfold vp_in; decide +kernel) (by decide +kernel) dk_Md_init_165 ?_
  refine kn_dup (pc := 166) dk_Md_init_166 rfl ?_
  refine kn_bipush (pc := 167) (6 : Int32) dk_Md_init_167 cn_b_6 ?_
  refine kn_iconst (pc := 169) (0 : Int32) dk_Md_init_169 cn_i_0 ?_
  refine kn_iastore (pc := 170) (q0 := 0) 6 rfl (by unfold vp_in; decide +kernel) (by decide +kernel) dk_Md_init_170 ?_
  refine kn_dup (pc := 171) dk_Md_init_171 rfl ?_
  refine kn_bipush (pc := 172) (7 : Int32) dk_Md_init_172 cn_b_7 ?_
  refine kn_bipush (pc := 174) (109 : Int32) dk_Md_init_174 cn_b_109 ?_
  refine kn_iastore (pc := 176) (q0 := 0) 7 rfl (by unfold vp_in; decide +kernel) (by decide +kernel) dk_Md_init_176 ?_
  refine kn_eq (ws' := (q14, .inl (kn_cI Y, (51, .inl (upd (upd (upd (upd (upd (upd (upd (upd (fun _ => 0) 0 112) 1 97) 2 114) 3 116) 4 115) 5 32) 6 0) 7 109)))) :: (q13, .inl (kn_cJ Y, (160, .inr (.inl (fun _ => 0))))) :: (q12, .inl (kn_cJ Y, (1280, .inr (.inl (fun _ => 0))))) :: (q11, .inl (kn_cI Y, (8, .inl (fun _ => 0)))) :: (q10, .inl (kn_cI Y, (8, .inl (fun _ => 0)))) :: (q9, .inl (kn_cI Y, (8, .inl (fun _ => 0)))) :: (q8, .inl (kn_cI Y, (8, .inl (fun _ => 0)))) :: (q7, .inl (kn_cI Y, (8, .inl (fun _ => 0)))) :: (q6, .inl (kn_cI Y, (8, .inl (fun _ => 0)))) :: (q5, .inl (kn_cI Y, (8, .inl (fun _ => 0)))) :: (q4, .inl (kn_cI Y, (8, .inl (fun _ => 0)))) :: (q3, .inl (kn_cI Y, (8, .inl (fun _ => 0)))) :: (q2, .inl (kn_cI Y, (8, .inl (fun _ => 0)))) :: (q1, .inl (kn_cI Y, (8, .inl (fun _ => 0)))) :: (h0, .inr (7, [.int 0, .int 4, .int 0, .int 100, .int 0, .int 1, .int (-1 : Int32), .ref q1, .ref q2, .ref q3, .ref q4, .ref q5, .ref q6, .ref q7, .ref q8, .ref q9, .ref q10, .ref q11, .ref q12, .ref q13, .null, .null, .null, .int 0, .int 0, .int 0, .int 0, .int 0, .null, .null, .null, .null, .null, .int 0, .null, .int 0, .int 0])) :: rest) (by rfl) ?_
  refine kn_dup (pc := 177) dk_Md_init_177 rfl ?_
  refine kn_bipush (pc := 178) (8 : Int32) dk_Md_init_178 cn_b_8 ?_
  refine kn_bipush (pc := 180) (97 : Int32) dk_Md_init_180 cn_b_97 ?_
  refine kn_iastore (pc := 182) (q0 := 0) 8 rfl (by unfold vp_in; decide +kernel) (by decide +kernel) dk_Md_init_182 ?_
  refine kn_dup (pc := 183) dk_Md_init_183 rfl ?_
  refine kn_bipush (pc := 184) (9 : Int32) dk_Md_init_184 cn_b_9 ?_
  refine kn_bipush (pc := 186) (107 : Int32) dk_Md_init_186 cn_b_107 ?_
  refine kn_iastore (pc := 188) (q0 := 0) 9 rfl (by unfold vp_in; decide +kernel) (by decide +kernel) dk_Md_init_188 ?_
  refine kn_dup (pc := 189) dk_Md_init_189 rfl ?_
  refine kn_bipush (pc := 190) (10 : Int32) dk_Md_init_190 cn_b_10 ?_
  refine kn_bipush (pc := 192) (101 : Int32) dk_Md_init_192 cn_b_101 ?_
  refine kn_iastore (pc := 194) (q0 := 0) 10 rfl (by unfold vp_in; decide +kernel) (by decide +kernel) dk_Md_init_194 ?_
  refine kn_dup (pc := 195) dk_Md_init_195 rfl ?_
  refine kn_bipush (pc := 196) (11 : Int32) dk_Md_init_196 cn_b_11 ?_
  refine kn_bipush (pc := 198) (114 : Int32) dk_Md_init_198 cn_b_114 ?_
  refine kn_iastore (pc := 200) (q0 := 0) 11 rfl (by unfold vp_in; decide +kernel) (by decide +kernel) dk_Md_init_200 ?_
  refine kn_dup (pc := 201) dk_Md_init_201 rfl ?_
  refine kn_bipush (pc := 202) (12 : Int32) dk_Md_init_202 cn_b_12 ?_
  refine kn_bipush (pc := 204) (32 : Int32) dk_Md_init_204 cn_b_32 ?_
  refine kn_iastore (pc := 206) (q0 := 0) 12 rfl (by unfold vp_in; decide +kernel) (by decide +kernel) dk_Md_init_206 ?_
  refine kn_eq (ws' := (q14, .inl (kn_cI Y, (51, .inl (upd (upd (upd (upd (upd (upd (upd (upd (upd (upd (upd (upd (upd (fun _ => 0) 0 112) 1 97) 2 114) 3 116) 4 115) 5 32) 6 0) 7 109) 8 97) 9 107) 10 101) 11 114) 12 32)))) :: (q13, .inl (kn_cJ Y, (160, .inr (.inl (fun _ => 0))))) :: (q12, .inl (kn_cJ Y, (1280, .inr (.inl (fun _ => 0))))) :: (q11, .inl (kn_cI Y, (8, .inl (fun _ => 0)))) :: (q10, .inl (kn_cI Y, (8, .inl (fun _ => 0)))) :: (q9, .inl (kn_cI Y, (8, .inl (fun _ => 0)))) :: (q8, .inl (kn_cI Y, (8, .inl (fun _ => 0)))) :: (q7, .inl (kn_cI Y, (8, .inl (fun _ => 0)))) :: (q6, .inl (kn_cI Y, (8, .inl (fun _ => 0)))) :: (q5, .inl (kn_cI Y, (8, .inl (fun _ => 0)))) :: (q4, .inl (kn_cI Y, (8, .inl (fun _ => 0)))) :: (q3, .inl (kn_cI Y, (8, .inl (fun _ => 0)))) :: (q2, .inl (kn_cI Y, (8, .inl (fun _ => 0)))) :: (q1, .inl (kn_cI Y, (8, .inl (fun _ => 0)))) :: (h0, .inr (7, [.int 0, .int 4, .int 0, .int 100, .int 0, .int 1, .int (-1 : Int32), .ref q1, .ref q2, .ref q3, .ref q4, .ref q5, .ref q6, .ref q7, .ref q8, .ref q9, .ref q10, .ref q11, .ref q12, .ref q13, .null, .null, .null, .int 0, .int 0, .int 0, .int 0, .int 0, .null, .null, .null, .null, .null, .int 0, .null, .int 0, .int 0])) :: rest) (by rfl) ?_
  refine kn_dup (pc := 207) dk_Md_init_207 rfl ?_
  refine kn_bipush (pc := 208) (13 : Int32) dk_Md_init_208 cn_b_13 ?_
  refine kn_iconst (pc := 210) (0 : Int32) dk_Md_init_210 cn_i_0 ?_
  refine kn_iastore (pc := 211) (q0 := 0) 13 rfl (by unfold vp_in; decide +kernel) (by decide +kernel) dk_Md_init_211 ?_
  refine kn_dup (pc := 212) dk_Md_init_212 rfl ?_
  refine kn_bipush (pc := 213) (14 : Int32) dk_Md_init_213 cn_b_14 ?_
  refine kn_bipush (pc := 215) (107 : Int32) dk_Md_init_215 cn_b_107 ?_
  refine kn_iastore (pc := 217) (q0 := 0) 14 rfl (by unfold vp_in; decide +kernel) (by decide +kernel) dk_Md_init_217 ?_
  refine kn_dup (pc := 218) dk_Md_init_218 rfl ?_
  refine kn_bipush (pc := 219) (15 : Int32) dk_Md_init_219 cn_b_15 ?_
  refine kn_bipush (pc := 221) (110 : Int32) dk_Md_init_221 cn_b_110 ?_
  refine kn_iastore (pc := 223) (q0 := 0) 15 rfl (by unfold vp_in; decide +kernel) (by decide +kernel) dk_Md_init_223 ?_
  refine kn_dup (pc := 224) dk_Md_init_224 rfl ?_
  refine kn_bipush (pc := 225) (16 : Int32) dk_Md_init_225 cn_b_16 ?_
  refine kn_bipush (pc := 227) (111 : Int32) dk_Md_init_227 cn_b_111 ?_
  refine kn_iastore (pc := 229) (q0 := 0) 16 rfl (by unfold vp_in; decide +kernel) (by decide +kernel) dk_Md_init_229 ?_
  refine kn_dup (pc := 230) dk_Md_init_230 rfl ?_
  refine kn_bipush (pc := 231) (17 : Int32) dk_Md_init_231 cn_b_17 ?_
  refine kn_bipush (pc := 233) (119 : Int32) dk_Md_init_233 cn_b_119 ?_
  refine kn_iastore (pc := 235) (q0 := 0) 17 rfl (by unfold vp_in; decide +kernel) (by decide +kernel) dk_Md_init_235 ?_
  refine kn_eq (ws' := (q14, .inl (kn_cI Y, (51, .inl (upd (upd (upd (upd (upd (upd (upd (upd (upd (upd (upd (upd (upd (upd (upd (upd (upd (upd (fun _ => 0) 0 112) 1 97) 2 114) 3 116) 4 115) 5 32) 6 0) 7 109) 8 97) 9 107) 10 101) 11 114) 12 32) 13 0) 14 107) 15 110) 16 111) 17 119)))) :: (q13, .inl (kn_cJ Y, (160, .inr (.inl (fun _ => 0))))) :: (q12, .inl (kn_cJ Y, (1280, .inr (.inl (fun _ => 0))))) :: (q11, .inl (kn_cI Y, (8, .inl (fun _ => 0)))) :: (q10, .inl (kn_cI Y, (8, .inl (fun _ => 0)))) :: (q9, .inl (kn_cI Y, (8, .inl (fun _ => 0)))) :: (q8, .inl (kn_cI Y, (8, .inl (fun _ => 0)))) :: (q7, .inl (kn_cI Y, (8, .inl (fun _ => 0)))) :: (q6, .inl (kn_cI Y, (8, .inl (fun _ => 0)))) :: (q5, .inl (kn_cI Y, (8, .inl (fun _ => 0)))) :: (q4, .inl (kn_cI Y, (8, .inl (fun _ => 0)))) :: (q3, .inl (kn_cI Y, (8, .inl (fun _ => 0)))) :: (q2, .inl (kn_cI Y, (8, .inl (fun _ => 0)))) :: (q1, .inl (kn_cI Y, (8, .inl (fun _ => 0)))) :: (h0, .inr (7, [.int 0, .int 4, .int 0, .int 100, .int 0, .int 1, .int (-1 : Int32), .ref q1, .ref q2, .ref q3, .ref q4, .ref q5, .ref q6, .ref q7, .ref q8, .ref q9, .ref q10, .ref q11, .ref q12, .ref q13, .null, .null, .null, .int 0, .int 0, .int 0, .int 0, .int 0, .null, .null, .null, .null, .null, .int 0, .null, .int 0, .int 0])) :: rest) (by rfl) ?_
  refine kn_dup (pc := 236) dk_Md_init_236 rfl ?_
  refine kn_bipush (pc := 237) (18 : Int32) dk_Md_init_237 cn_b_18 ?_
  refine kn_bipush (pc := 239) (115 : Int32) dk_Md_init_239 cn_b_115 ?_
  refine kn_iastore (pc := 241) (q0 := 0) 18 rfl (by unfold vp_in; decide +kernel) (by decide +kernel) dk_Md_init_241 ?_
  refine kn_dup (pc := 242) dk_Md_init_242 rfl ?_
  refine kn_bipush (pc := 243) (19 : Int32) dk_Md_init_243 cn_b_19 ?_
  refine kn_bipush (pc := 245) (32 : Int32) dk_Md_init_245 cn_b_32 ?_
  refine kn_iastore (pc := 247) (q0 := 0) 19 rfl (by unfold vp_in; decide +kernel) (by decide +kernel) dk_Md_init_247 ?_
  refine kn_dup (pc := 248) dk_Md_init_248 rfl ?_
  refine kn_bipush (pc := 249) (20 : Int32) dk_Md_init_249 cn_b_20 ?_
  refine kn_iconst (pc := 251) (0 : Int32) dk_Md_init_251 cn_i_0 ?_
  refine kn_iastore (pc := 252) (q0 := 0) 20 rfl (by unfold vp_in; decide +kernel) (by decide +kernel) dk_Md_init_252 ?_
  refine kn_dup (pc := 253) dk_Md_init_253 rfl ?_
  refine kn_bipush (pc := 254) (21 : Int32) dk_Md_init_254 cn_b_21 ?_
  refine kn_bipush (pc := 256) (107 : Int32) dk_Md_init_256 cn_b_107 ?_
  refine kn_iastore (pc := 258) (q0 := 0) 21 rfl (by unfold vp_in; decide +kernel) (by decide +kernel) dk_Md_init_258 ?_
  refine kn_dup (pc := 259) dk_Md_init_259 rfl ?_
  refine kn_bipush (pc := 260) (22 : Int32) dk_Md_init_260 cn_b_22 ?_
  refine kn_bipush (pc := 262) (105 : Int32) dk_Md_init_262 cn_b_105 ?_
  refine kn_iastore (pc := 264) (q0 := 0) 22 rfl (by unfold vp_in; decide +kernel) (by decide +kernel) dk_Md_init_264 ?_
  refine kn_eq (ws' := (q14, .inl (kn_cI Y, (51, .inl (upd (upd (upd (upd (upd (upd (upd (upd (upd (upd (upd (upd (upd (upd (upd (upd (upd (upd (upd (upd (upd (upd (upd (fun _ => 0) 0 112) 1 97) 2 114) 3 116) 4 115) 5 32) 6 0) 7 109) 8 97) 9 107) 10 101) 11 114) 12 32) 13 0) 14 107) 15 110) 16 111) 17 119) 18 115) 19 32) 20 0) 21 107) 22 105)))) :: (q13, .inl (kn_cJ Y, (160, .inr (.inl (fun _ => 0))))) :: (q12, .inl (kn_cJ Y, (1280, .inr (.inl (fun _ => 0))))) :: (q11, .inl (kn_cI Y, (8, .inl (fun _ => 0)))) :: (q10, .inl (kn_cI Y, (8, .inl (fun _ => 0)))) :: (q9, .inl (kn_cI Y, (8, .inl (fun _ => 0)))) :: (q8, .inl (kn_cI Y, (8, .inl (fun _ => 0)))) :: (q7, .inl (kn_cI Y, (8, .inl (fun _ => 0)))) :: (q6, .inl (kn_cI Y, (8, .inl (fun _ => 0)))) :: (q5, .inl (kn_cI Y, (8, .inl (fun _ => 0)))) :: (q4, .inl (kn_cI Y, (8, .inl (fun _ => 0)))) :: (q3, .inl (kn_cI Y, (8, .inl (fun _ => 0)))) :: (q2, .inl (kn_cI Y, (8, .inl (fun _ => 0)))) :: (q1, .inl (kn_cI Y, (8, .inl (fun _ => 0)))) :: (h0, .inr (7, [.int 0, .int 4, .int 0, .int 100, .int 0, .int 1, .int (-1 : Int32), .ref q1, .ref q2, .ref q3, .ref q4, .ref q5, .ref q6, .ref q7, .ref q8, .ref q9, .ref q10, .ref q11, .ref q12, .ref q13, .null, .null, .null, .int 0, .int 0, .int 0, .int 0, .int 0, .null, .null, .null, .null, .null, .int 0, .null, .int 0, .int 0])) :: rest) (by rfl) ?_
  refine kn_dup (pc := 265) dk_Md_init_265 rfl ?_
  refine kn_bipush (pc := 266) (23 : Int32) dk_Md_init_266 cn_b_23 ?_
  refine kn_bipush (pc := 268) (110 : Int32) dk_Md_init_268 cn_b_110 ?_
  refine kn_iastore (pc := 270) (q0 := 0) 23 rfl (by unfold vp_in; decide +kernel) (by decide +kernel) dk_Md_init_270 ?_
  refine kn_dup (pc := 271) dk_Md_init_271 rfl ?_
  refine kn_bipush (pc := 272) (24 : Int32) dk_Md_init_272 cn_b_24 ?_
  refine kn_bipush (pc := 274) (32 : Int32) dk_Md_init_274 cn_b_32 ?_
  refine kn_iastore (pc := 276) (q0 := 0) 24 rfl (by unfold vp_in; decide +kernel) (by decide +kernel) dk_Md_init_276 ?_
  refine kn_dup (pc := 277) dk_Md_init_277 rfl ?_
  refine kn_bipush (pc := 278) (25 : Int32) dk_Md_init_278 cn_b_25 ?_
  refine kn_iconst (pc := 280) (0 : Int32) dk_Md_init_280 cn_i_0 ?_
  refine kn_iastore (pc := 281) (q0 := 0) 25 rfl (by unfold vp_in; decide +kernel) (by decide +kernel) dk_Md_init_281 ?_
  refine kn_dup (pc := 282) dk_Md_init_282 rfl ?_
  refine kn_bipush (pc := 283) (26 : Int32) dk_Md_init_283 cn_b_26 ?_
  refine kn_bipush (pc := 285) (102 : Int32) dk_Md_init_285 cn_b_102 ?_
  refine kn_iastore (pc := 287) (q0 := 0) 26 rfl (by unfold vp_in; decide +kernel) (by decide +kernel) dk_Md_init_287 ?_
  refine kn_dup (pc := 288) dk_Md_init_288 rfl ?_
  refine kn_bipush (pc := 289) (27 : Int32) dk_Md_init_289 cn_b_27 ?_
  refine kn_bipush (pc := 291) (101 : Int32) dk_Md_init_291 cn_b_101 ?_
  refine kn_iastore (pc := 293) (q0 := 0) 27 rfl (by unfold vp_in; decide +kernel) (by decide +kernel) dk_Md_init_293 ?_
  refine kn_eq (ws' := (q14, .inl (kn_cI Y, (51, .inl (upd (upd (upd (upd (upd (upd (upd (upd (upd (upd (upd (upd (upd (upd (upd (upd (upd (upd (upd (upd (upd (upd (upd (upd (upd (upd (upd (upd (fun _ => 0) 0 112) 1 97) 2 114) 3 116) 4 115) 5 32) 6 0) 7 109) 8 97) 9 107) 10 101) 11 114) 12 32) 13 0) 14 107) 15 110) 16 111) 17 119) 18 115) 19 32) 20 0) 21 107) 22 105) 23 110) 24 32) 25 0) 26 102) 27 101)))) :: (q13, .inl (kn_cJ Y, (160, .inr (.inl (fun _ => 0))))) :: (q12, .inl (kn_cJ Y, (1280, .inr (.inl (fun _ => 0))))) :: (q11, .inl (kn_cI Y, (8, .inl (fun _ => 0)))) :: (q10, .inl (kn_cI Y, (8, .inl (fun _ => 0)))) :: (q9, .inl (kn_cI Y, (8, .inl (fun _ => 0)))) :: (q8, .inl (kn_cI Y, (8, .inl (fun _ => 0)))) :: (q7, .inl (kn_cI Y, (8, .inl (fun _ => 0)))) :: (q6, .inl (kn_cI Y, (8, .inl (fun _ => 0)))) :: (q5, .inl (kn_cI Y, (8, .inl (fun _ => 0)))) :: (q4, .inl (kn_cI Y, (8, .inl (fun _ => 0)))) :: (q3, .inl (kn_cI Y, (8, .inl (fun _ => 0)))) :: (q2, .inl (kn_cI Y, (8, .inl (fun _ => 0)))) :: (q1, .inl (kn_cI Y, (8, .inl (fun _ => 0)))) :: (h0, .inr (7, [.int 0, .int 4, .int 0, .int 100, .int 0, .int 1, .int (-1 : Int32), .ref q1, .ref q2, .ref q3, .ref q4, .ref q5, .ref q6, .ref q7, .ref q8, .ref q9, .ref q10, .ref q11, .ref q12, .ref q13, .null, .null, .null, .int 0, .int 0, .int 0, .int 0, .int 0, .null, .null, .null, .null, .null, .int 0, .null, .int 0, .int 0])) :: rest) (by rfl) ?_
  refine kn_dup (pc := 294) dk_Md_init_294 rfl ?_
  refine kn_bipush (pc := 295) (28 : Int32) dk_Md_init_295 cn_b_28 ?_
  refine kn_bipush (pc := 297) (97 : Int32) dk_Md_init_297 cn_b_97 ?_
  refine kn_iastore (pc := 299) (q0 := 0) 28 rfl (by unfold vp_in; decide +kernel) (by decide +kernel) dk_Md_init_299 ?_
  refine kn_dup (pc := 300) dk_Md_init_300 rfl ?_
  refine kn_bipush (pc := 301) (29 : Int32) dk_Md_init_301 cn_b_29 ?_
  refine kn_bipush (pc := 303) (114 : Int32) dk_Md_init_303 cn_b_114 ?_
  refine kn_iastore (pc := 305) (q0 := 0) 29 rfl (by unfold vp_in; decide +kernel) (by decide +kernel) dk_Md_init_305 ?_
  refine kn_dup (pc := 306) dk_Md_init_306 rfl ?_
  refine kn_bipush (pc := 307) (30 : Int32) dk_Md_init_307 cn_b_30 ?_
  refine kn_bipush (pc := 309) (32 : Int32) dk_Md_init_309 cn_b_32 ?_
  refine kn_iastore (pc := 311) (q0 := 0) 30 rfl (by unfold vp_in; decide +kernel) (by decide +kernel) dk_Md_init_311 ?_
  refine kn_dup (pc := 312) dk_Md_init_312 rfl ?_
  refine kn_bipush (pc := 313) (31 : Int32) dk_Md_init_313 cn_b_31 ?_
  refine kn_iconst (pc := 315) (0 : Int32) dk_Md_init_315 cn_i_0 ?_
  refine kn_iastore (pc := 316) (q0 := 0) 31 rfl (by unfold vp_in; decide +kernel) (by decide +kernel) dk_Md_init_316 ?_
  refine kn_dup (pc := 317) dk_Md_init_317 rfl ?_
  refine kn_bipush (pc := 318) (32 : Int32) dk_Md_init_318 cn_b_32 ?_
  refine kn_bipush (pc := 320) (112 : Int32) dk_Md_init_320 cn_b_112 ?_
  refine kn_iastore (pc := 322) (q0 := 0) 32 rfl (by unfold vp_in; decide +kernel) (by decide +kernel) dk_Md_init_322 ?_
  refine kn_eq (ws' := (q14, .inl (kn_cI Y, (51, .inl (upd (upd (upd (upd (upd (upd (upd (upd (upd (upd (upd (upd (upd (upd (upd (upd (upd (upd (upd (upd (upd (upd (upd (upd (upd (upd (upd (upd (upd (upd (upd (upd (upd (fun _ => 0) 0 112) 1 97) 2 114) 3 116) 4 115) 5 32) 6 0) 7 109) 8 97) 9 107) 10 101) 11 114) 12 32) 13 0) 14 107) 15 110) 16 111) 17 119) 18 115) 19 32) 20 0) 21 107) 22 105) 23 110) 24 32) 25 0) 26 102) 27 101) 28 97) 29 114) 30 32) 31 0) 32 112)))) :: (q13, .inl (kn_cJ Y, (160, .inr (.inl (fun _ => 0))))) :: (q12, .inl (kn_cJ Y, (1280, .inr (.inl (fun _ => 0))))) :: (q11, .inl (kn_cI Y, (8, .inl (fun _ => 0)))) :: (q10, .inl (kn_cI Y, (8, .inl (fun _ => 0)))) :: (q9, .inl (kn_cI Y, (8, .inl (fun _ => 0)))) :: (q8, .inl (kn_cI Y, (8, .inl (fun _ => 0)))) :: (q7, .inl (kn_cI Y, (8, .inl (fun _ => 0)))) :: (q6, .inl (kn_cI Y, (8, .inl (fun _ => 0)))) :: (q5, .inl (kn_cI Y, (8, .inl (fun _ => 0)))) :: (q4, .inl (kn_cI Y, (8, .inl (fun _ => 0)))) :: (q3, .inl (kn_cI Y, (8, .inl (fun _ => 0)))) :: (q2, .inl (kn_cI Y, (8, .inl (fun _ => 0)))) :: (q1, .inl (kn_cI Y, (8, .inl (fun _ => 0)))) :: (h0, .inr (7, [.int 0, .int 4, .int 0, .int 100, .int 0, .int 1, .int (-1 : Int32), .ref q1, .ref q2, .ref q3, .ref q4, .ref q5, .ref q6, .ref q7, .ref q8, .ref q9, .ref q10, .ref q11, .ref q12, .ref q13, .null, .null, .null, .int 0, .int 0, .int 0, .int 0, .int 0, .null, .null, .null, .null, .null, .int 0, .null, .int 0, .int 0])) :: rest) (by rfl) ?_
  refine kn_dup (pc := 323) dk_Md_init_323 rfl ?_
  refine kn_bipush (pc := 324) (33 : Int32) dk_Md_init_324 cn_b_33 ?_
  refine kn_bipush (pc := 326) (117 : Int32) dk_Md_init_326 cn_b_117 ?_
  refine kn_iastore (pc := 328) (q0 := 0) 33 rfl (by unfold vp_in; decide +kernel) (by decide +kernel) dk_Md_init_328 ?_
  refine kn_dup (pc := 329) dk_Md_init_329 rfl ?_
  refine kn_bipush (pc := 330) (34 : Int32) dk_Md_init_330 cn_b_34 ?_
  refine kn_bipush (pc := 332) (114 : Int32) dk_Md_init_332 cn_b_114 ?_
  refine kn_iastore (pc := 334) (q0 := 0) 34 rfl (by unfold vp_in; decide +kernel) (by decide +kernel) dk_Md_init_334 ?_
  refine kn_dup (pc := 335) dk_Md_init_335 rfl ?_
  refine kn_bipush (pc := 336) (35 : Int32) dk_Md_init_336 cn_b_35 ?_
  refine kn_bipush (pc := 338) (115 : Int32) dk_Md_init_338 cn_b_115 ?_
  refine kn_iastore (pc := 340) (q0 := 0) 35 rfl (by unfold vp_in; decide +kernel) (by decide +kernel) dk_Md_init_340 ?_
  refine kn_dup (pc := 341) dk_Md_init_341 rfl ?_
  refine kn_bipush (pc := 342) (36 : Int32) dk_Md_init_342 cn_b_36 ?_
  refine kn_bipush (pc := 344) (101 : Int32) dk_Md_init_344 cn_b_101 ?_
  refine kn_iastore (pc := 346) (q0 := 0) 36 rfl (by unfold vp_in; decide +kernel) (by decide +kernel) dk_Md_init_346 ?_
  refine kn_dup (pc := 347) dk_Md_init_347 rfl ?_
  refine kn_bipush (pc := 348) (37 : Int32) dk_Md_init_348 cn_b_37 ?_
  refine kn_bipush (pc := 350) (32 : Int32) dk_Md_init_350 cn_b_32 ?_
  refine kn_iastore (pc := 352) (q0 := 0) 37 rfl (by unfold vp_in; decide +kernel) (by decide +kernel) dk_Md_init_352 ?_
  refine kn_eq (ws' := (q14, .inl (kn_cI Y, (51, .inl (upd (upd (upd (upd (upd (upd (upd (upd (upd (upd (upd (upd (upd (upd (upd (upd (upd (upd (upd (upd (upd (upd (upd (upd (upd (upd (upd (upd (upd (upd (upd (upd (upd (upd (upd (upd (upd (upd (fun _ => 0) 0 112) 1 97) 2 114) 3 116) 4 115) 5 32) 6 0) 7 109) 8 97) 9 107) 10 101) 11 114) 12 32) 13 0) 14 107) 15 110) 16 111) 17 119) 18 115) 19 32) 20 0) 21 107) 22 105) 23 110) 24 32) 25 0) 26 102) 27 101) 28 97) 29 114) 30 32) 31 0) 32 112) 33 117) 34 114) 35 115) 36 101) 37 32)))) :: (q13, .inl (kn_cJ Y, (160, .inr (.inl (fun _ => 0))))) :: (q12, .inl (kn_cJ Y, (1280, .inr (.inl (fun _ => 0))))) :: (q11, .inl (kn_cI Y, (8, .inl (fun _ => 0)))) :: (q10, .inl (kn_cI Y, (8, .inl (fun _ => 0)))) :: (q9, .inl (kn_cI Y, (8, .inl (fun _ => 0)))) :: (q8, .inl (kn_cI Y, (8, .inl (fun _ => 0)))) :: (q7, .inl (kn_cI Y, (8, .inl (fun _ => 0)))) :: (q6, .inl (kn_cI Y, (8, .inl (fun _ => 0)))) :: (q5, .inl (kn_cI Y, (8, .inl (fun _ => 0)))) :: (q4, .inl (kn_cI Y, (8, .inl (fun _ => 0)))) :: (q3, .inl (kn_cI Y, (8, .inl (fun _ => 0)))) :: (q2, .inl (kn_cI Y, (8, .inl (fun _ => 0)))) :: (q1, .inl (kn_cI Y, (8, .inl (fun _ => 0)))) :: (h0, .inr (7, [.int 0, .int 4, .int 0, .int 100, .int 0, .int 1, .int (-1 : Int32), .ref q1, .ref q2, .ref q3, .ref q4, .ref q5, .ref q6, .ref q7, .ref q8, .ref q9, .ref q10, .ref q11, .ref q12, .ref q13, .null, .null, .null, .int 0, .int 0, .int 0, .int 0, .int 0, .null, .null, .null, .null, .null, .int 0, .null, .int 0, .int 0])) :: rest) (by rfl) ?_
  refine kn_dup (pc := 353) dk_Md_init_353 rfl ?_
  refine kn_bipush (pc := 354) (38 : Int32) dk_Md_init_354 cn_b_38 ?_
  refine kn_iconst (pc := 356) (0 : Int32) dk_Md_init_356 cn_i_0 ?_
  refine kn_iastore (pc := 357) (q0 := 0) 38 rfl (by unfold vp_in; decide +kernel) (by decide +kernel) dk_Md_init_357 ?_
  refine kn_dup (pc := 358) dk_Md_init_358 rfl ?_
  refine kn_bipush (pc := 359) (39 : Int32) dk_Md_init_359 cn_b_39 ?_
  refine kn_bipush (pc := 361) (103 : Int32) dk_Md_init_361 cn_b_103 ?_
  refine kn_iastore (pc := 363) (q0 := 0) 39 rfl (by unfold vp_in; decide +kernel) (by decide +kernel) dk_Md_init_363 ?_
  refine kn_dup (pc := 364) dk_Md_init_364 rfl ?_
  refine kn_bipush (pc := 365) (40 : Int32) dk_Md_init_365 cn_b_40 ?_
  refine kn_bipush (pc := 367) (111 : Int32) dk_Md_init_367 cn_b_111 ?_
  refine kn_iastore (pc := 369) (q0 := 0) 40 rfl (by unfold vp_in; decide +kernel) (by decide +kernel) dk_Md_init_369 ?_
  refine kn_dup (pc := 370) dk_Md_init_370 rfl ?_
  refine kn_bipush (pc := 371) (41 : Int32) dk_Md_init_371 cn_b_41 ?_
  refine kn_bipush (pc := 373) (101 : Int32) dk_Md_init_373 cn_b_101 ?_
  refine kn_iastore (pc := 375) (q0 := 0) 41 rfl (by unfold vp_in; decide +kernel) (by decide +kernel) dk_Md_init_375 ?_
  refine kn_dup (pc := 376) dk_Md_init_376 rfl ?_
  refine kn_bipush (pc := 377) (42 : Int32) dk_Md_init_377 cn_b_42 ?_
  refine kn_bipush (pc := 379) (115 : Int32) dk_Md_init_379 cn_b_115 ?_
  refine kn_iastore (pc := 381) (q0 := 0) 42 rfl (by unfold vp_in; decide +kernel) (by decide +kernel) dk_Md_init_381 ?_
  refine kn_eq (ws' := (q14, .inl (kn_cI Y, (51, .inl (upd (upd (upd (upd (upd (upd (upd (upd (upd (upd (upd (upd (upd (upd (upd (upd (upd (upd (upd (upd (upd (upd (upd (upd (upd (upd (upd (upd (upd (upd (upd (upd (upd (upd (upd (upd (upd (upd (upd (upd (upd (upd (upd (fun _ => 0) 0 112) 1 97) 2 114) 3 116) 4 115) 5 32) 6 0) 7 109) 8 97) 9 107) 10 101) 11 114) 12 32) 13 0) 14 107) 15 110) 16 111) 17 119) 18 115) 19 32) 20 0) 21 107) 22 105) 23 110) 24 32) 25 0) 26 102) 27 101) 28 97) 29 114) 30 32) 31 0) 32 112) 33 117) 34 114) 35 115) 36 101) 37 32) 38 0) 39 103) 40 111) 41 101) 42 115)))) :: (q13, .inl (kn_cJ Y, (160, .inr (.inl (fun _ => 0))))) :: (q12, .inl (kn_cJ Y, (1280, .inr (.inl (fun _ => 0))))) :: (q11, .inl (kn_cI Y, (8, .inl (fun _ => 0)))) :: (q10, .inl (kn_cI Y, (8, .inl (fun _ => 0)))) :: (q9, .inl (kn_cI Y, (8, .inl (fun _ => 0)))) :: (q8, .inl (kn_cI Y, (8, .inl (fun _ => 0)))) :: (q7, .inl (kn_cI Y, (8, .inl (fun _ => 0)))) :: (q6, .inl (kn_cI Y, (8, .inl (fun _ => 0)))) :: (q5, .inl (kn_cI Y, (8, .inl (fun _ => 0)))) :: (q4, .inl (kn_cI Y, (8, .inl (fun _ => 0)))) :: (q3, .inl (kn_cI Y, (8, .inl (fun _ => 0)))) :: (q2, .inl (kn_cI Y, (8, .inl (fun _ => 0)))) :: (q1, .inl (kn_cI Y, (8, .inl (fun _ => 0)))) :: (h0, .inr (7, [.int 0, .int 4, .int 0, .int 100, .int 0, .int 1, .int (-1 : Int32), .ref q1, .ref q2, .ref q3, .ref q4, .ref q5, .ref q6, .ref q7, .ref q8, .ref q9, .ref q10, .ref q11, .ref q12, .ref q13, .null, .null, .null, .int 0, .int 0, .int 0, .int 0, .int 0, .null, .null, .null, .null, .null, .int 0, .null, .int 0, .int 0])) :: rest) (by rfl) ?_
  refine kn_dup (pc := 382) dk_Md_init_382 rfl ?_
  refine kn_bipush (pc := 383) (43 : Int32) dk_Md_init_383 cn_b_43 ?_
  refine kn_bipush (pc := 385) (32 : Int32) dk_Md_init_385 cn_b_32 ?_
  refine kn_iastore (pc := 387) (q0 := 0) 43 rfl (by unfold vp_in; decide +kernel) (by decide +kernel) dk_Md_init_387 ?_
  refine kn_dup (pc := 388) dk_Md_init_388 rfl ?_
  refine kn_bipush (pc := 389) (44 : Int32) dk_Md_init_389 cn_b_44 ?_
  refine kn_iconst (pc := 391) (0 : Int32) dk_Md_init_391 cn_i_0 ?_
  refine kn_iastore (pc := 392) (q0 := 0) 44 rfl (by unfold vp_in; decide +kernel) (by decide +kernel) dk_Md_init_392 ?_
  refine kn_dup (pc := 393) dk_Md_init_393 rfl ?_
  refine kn_bipush (pc := 394) (45 : Int32) dk_Md_init_394 cn_b_45 ?_
  refine kn_bipush (pc := 396) (100 : Int32) dk_Md_init_396 cn_b_100 ?_
  refine kn_iastore (pc := 398) (q0 := 0) 45 rfl (by unfold vp_in; decide +kernel) (by decide +kernel) dk_Md_init_398 ?_
  refine kn_dup (pc := 399) dk_Md_init_399 rfl ?_
  refine kn_bipush (pc := 400) (46 : Int32) dk_Md_init_400 cn_b_46 ?_
  refine kn_bipush (pc := 402) (105 : Int32) dk_Md_init_402 cn_b_105 ?_
  refine kn_iastore (pc := 404) (q0 := 0) 46 rfl (by unfold vp_in; decide +kernel) (by decide +kernel) dk_Md_init_404 ?_
  refine kn_dup (pc := 405) dk_Md_init_405 rfl ?_
  refine kn_bipush (pc := 406) (47 : Int32) dk_Md_init_406 cn_b_47 ?_
  refine kn_bipush (pc := 408) (101 : Int32) dk_Md_init_408 cn_b_101 ?_
  refine kn_iastore (pc := 410) (q0 := 0) 47 rfl (by unfold vp_in; decide +kernel) (by decide +kernel) dk_Md_init_410 ?_
  refine kn_eq (ws' := (q14, .inl (kn_cI Y, (51, .inl (upd (upd (upd (upd (upd (upd (upd (upd (upd (upd (upd (upd (upd (upd (upd (upd (upd (upd (upd (upd (upd (upd (upd (upd (upd (upd (upd (upd (upd (upd (upd (upd (upd (upd (upd (upd (upd (upd (upd (upd (upd (upd (upd (upd (upd (upd (upd (upd (fun _ => 0) 0 112) 1 97) 2 114) 3 116) 4 115) 5 32) 6 0) 7 109) 8 97) 9 107) 10 101) 11 114) 12 32) 13 0) 14 107) 15 110) 16 111) 17 119) 18 115) 19 32) 20 0) 21 107) 22 105) 23 110) 24 32) 25 0) 26 102) 27 101) 28 97) 29 114) 30 32) 31 0) 32 112) 33 117) 34 114) 35 115) 36 101) 37 32) 38 0) 39 103) 40 111) 41 101) 42 115) 43 32) 44 0) 45 100) 46 105) 47 101)))) :: (q13, .inl (kn_cJ Y, (160, .inr (.inl (fun _ => 0))))) :: (q12, .inl (kn_cJ Y, (1280, .inr (.inl (fun _ => 0))))) :: (q11, .inl (kn_cI Y, (8, .inl (fun _ => 0)))) :: (q10, .inl (kn_cI Y, (8, .inl (fun _ => 0)))) :: (q9, .inl (kn_cI Y, (8, .inl (fun _ => 0)))) :: (q8, .inl (kn_cI Y, (8, .inl (fun _ => 0)))) :: (q7, .inl (kn_cI Y, (8, .inl (fun _ => 0)))) :: (q6, .inl (kn_cI Y, (8, .inl (fun _ => 0)))) :: (q5, .inl (kn_cI Y, (8, .inl (fun _ => 0)))) :: (q4, .inl (kn_cI Y, (8, .inl (fun _ => 0)))) :: (q3, .inl (kn_cI Y, (8, .inl (fun _ => 0)))) :: (q2, .inl (kn_cI Y, (8, .inl (fun _ => 0)))) :: (q1, .inl (kn_cI Y, (8, .inl (fun _ => 0)))) :: (h0, .inr (7, [.int 0, .int 4, .int 0, .int 100, .int 0, .int 1, .int (-1 : Int32), .ref q1, .ref q2, .ref q3, .ref q4, .ref q5, .ref q6, .ref q7, .ref q8, .ref q9, .ref q10, .ref q11, .ref q12, .ref q13, .null, .null, .null, .int 0, .int 0, .int 0, .int 0, .int 0, .null, .null, .null, .null, .null, .int 0, .null, .int 0, .int 0])) :: rest) (by rfl) ?_
  refine kn_dup (pc := 411) dk_Md_init_411 rfl ?_
  refine kn_bipush (pc := 412) (48 : Int32) dk_Md_init_412 cn_b_48 ?_
  refine kn_bipush (pc := 414) (115 : Int32) dk_Md_init_414 cn_b_115 ?_
  refine kn_iastore (pc := 416) (q0 := 0) 48 rfl (by unfold vp_in; decide +kernel) (by decide +kernel) dk_Md_init_416 ?_
  refine kn_dup (pc := 417) dk_Md_init_417 rfl ?_
  refine kn_bipush (pc := 418) (49 : Int32) dk_Md_init_418 cn_b_49 ?_
  refine kn_bipush (pc := 420) (32 : Int32) dk_Md_init_420 cn_b_32 ?_
  refine kn_iastore (pc := 422) (q0 := 0) 49 rfl (by unfold vp_in; decide +kernel) (by decide +kernel) dk_Md_init_422 ?_
  refine kn_dup (pc := 423) dk_Md_init_423 rfl ?_
  refine kn_bipush (pc := 424) (50 : Int32) dk_Md_init_424 cn_b_50 ?_
  refine kn_iconst (pc := 426) (0 : Int32) dk_Md_init_426 cn_i_0 ?_
  refine kn_iastore (pc := 427) (q0 := 0) 50 rfl (by unfold vp_in; decide +kernel) (by decide +kernel) dk_Md_init_427 ?_
  refine kn_putF (pc := 428) (q0 := 14) (C := RX7) (T := TX7) (N := 37) (t := 7) (j := 20) tyX7 tyX7_ok nmX7 rfl nm_nd7 (by decide) rfl rfl rfl rfl (tyX7_ok 20 (by decide)) rfl rfl (Nat.le_of_ble_eq_true rfl) wd_1077 dk_Md_init_428 ?_
  refine kn_aload_n (pc := 431) 0 0 dk_Md_init_431 rfl rfl ?_
  refine kn_bipush (pc := 432) (8 : Int32) dk_Md_init_432 cn_b_8 ?_
  refine kn_newI (pc := 434) 8 wd_160 (by decide +kernel) (by decide +kernel) (by decide +kernel) (by rw [hmc]; exact Nat.le_of_ble_eq_true rfl) (by rw [hms]; exact Nat.le_of_ble_eq_true rfl) dk_Md_init_434 (fun q15 => ?_)
  refine kn_dup (pc := 436) dk_Md_init_436 rfl ?_
  refine kn_iconst (pc := 437) (0 : Int32) dk_Md_init_437 cn_i_0 ?_
  refine kn_iconst (pc := 438) (1 : Int32) dk_Md_init_438 cn_i_1 ?_
  refine kn_iastore (pc := 439) (q0 := 0) 0 rfl (by unfold vp_in; decide +kernel) (by decide +kernel) dk_Md_init_439 ?_
  refine kn_eq (ws' := (q15, .inl (kn_cI Y, (8, .inl (upd (fun _ => 0) 0 1)))) :: (q14, .inl (kn_cI Y, (51, .inl (upd (upd (upd (upd (upd (upd (upd (upd (upd (upd (upd (upd (upd (upd (upd (upd (upd (upd (upd (upd (upd (upd (upd (upd (upd (upd (upd (upd (upd (upd (upd (upd (upd (upd (upd (upd (upd (upd (upd (upd (upd (upd (upd (upd (upd (upd (upd (upd (upd (upd (upd (fun _ => 0) 0 112) 1 97) 2 114) 3 116) 4 115) 5 32) 6 0) 7 109) 8 97) 9 107) 10 101) 11 114) 12 32) 13 0) 14 107) 15 110) 16 111) 17 119) 18 115) 19 32) 20 0) 21 107) 22 105) 23 110) 24 32) 25 0) 26 102) 27 101) 28 97) 29 114) 30 32) 31 0) 32 112) 33 117) 34 114) 35 115) 36 101) 37 32) 38 0) 39 103) 40 111) 41 101) 42 115) 43 32) 44 0) 45 100) 46 105) 47 101) 48 115) 49 32) 50 0)))) :: (q13, .inl (kn_cJ Y, (160, .inr (.inl (fun _ => 0))))) :: (q12, .inl (kn_cJ Y, (1280, .inr (.inl (fun _ => 0))))) :: (q11, .inl (kn_cI Y, (8, .inl (fun _ => 0)))) :: (q10, .inl (kn_cI Y, (8, .inl (fun _ => 0)))) :: (q9, .inl (kn_cI Y, (8, .inl (fun _ => 0)))) :: (q8, .inl (kn_cI Y, (8, .inl (fun _ => 0)))) :: (q7, .inl (kn_cI Y, (8, .inl (fun _ => 0)))) :: (q6, .inl (kn_cI Y, (8, .inl (fun _ => 0)))) :: (q5, .inl (kn_cI Y, (8, .inl (fun _ => 0)))) :: (q4, .inl (kn_cI Y, (8, .inl (fun _ => 0)))) :: (q3, .inl (kn_cI Y, (8, .inl (fun _ => 0)))) :: (q2, .inl (kn_cI Y, (8, .inl (fun _ => 0)))) :: (q1, .inl (kn_cI Y, (8, .inl (fun _ => 0)))) :: (h0, .inr (7, [.int 0, .int 4, .int 0, .int 100, .int 0, .int 1, .int (-1 : Int32), .ref q1, .ref q2, .ref q3, .ref q4, .ref q5, .ref q6, .ref q7, .ref q8, .ref q9, .ref q10, .ref q11, .ref q12, .ref q13, .ref q14, .null, .null, .int 0, .int 0, .int 0, .int 0, .int 0, .null, .null, .null, .null, .null, .int 0, .null, .int 0, .int 0])) :: rest) (by rfl) ?_
  refine kn_dup (pc := 440) dk_Md_init_440 rfl ?_
  refine kn_iconst (pc := 441) (1 : Int32) dk_Md_init_441 cn_i_1 ?_
  refine kn_iconst (pc := 442) (3 : Int32) dk_Md_init_442 cn_i_3 ?_
  refine kn_iastore (pc := 443) (q0 := 0) 1 rfl (by unfold vp_in; decide +kernel) (by decide +kernel) dk_Md_init_443 ?_
  refine kn_dup (pc := 444) dk_Md_init_444 rfl ?_
  refine kn_iconst (pc := 445) (2 : Int32) dk_Md_init_445 cn_i_2 ?_
  refine kn_iconst (pc := 446) (2 : Int32) dk_Md_init_446 cn_i_2 ?_
  refine kn_iastore (pc := 447) (q0 := 0) 2 rfl (by unfold vp_in; decide +kernel) (by decide +kernel) dk_Md_init_447 ?_
  refine kn_dup (pc := 448) dk_Md_init_448 rfl ?_
  refine kn_iconst (pc := 449) (3 : Int32) dk_Md_init_449 cn_i_3 ?_
  refine kn_iconst (pc := 450) (2 : Int32) dk_Md_init_450 cn_i_2 ?_
  refine kn_iastore (pc := 451) (q0 := 0) 3 rfl (by unfold vp_in; decide +kernel) (by decide +kernel) dk_Md_init_451 ?_
  refine kn_dup (pc := 452) dk_Md_init_452 rfl ?_
  refine kn_iconst (pc := 453) (4 : Int32) dk_Md_init_453 cn_i_4 ?_
  refine kn_iconst (pc := 454) (1 : Int32) dk_Md_init_454 cn_i_1 ?_
  refine kn_iastore (pc := 455) (q0 := 0) 4 rfl (by unfold vp_in; decide +kernel) (by decide +kernel) dk_Md_init_455 ?_
  refine kn_dup (pc := 456) dk_Md_init_456 rfl ?_
  refine kn_iconst (pc := 457) (5 : Int32) dk_Md_init_457 cn_i_5 ?_
  refine kn_iconst (pc := 458) (1 : Int32) dk_Md_init_458 cn_i_1 ?_
  refine kn_iastore (pc := 459) (q0 := 0) 5 rfl (by unfold vp_in; decide +kernel) (by decide +kernel) dk_Md_init_459 ?_
  refine kn_eq (ws' := (q15, .inl (kn_cI Y, (8, .inl (upd (upd (upd (upd (upd (upd (fun _ => 0) 0 1) 1 3) 2 2) 3 2) 4 1) 5 1)))) :: (q14, .inl (kn_cI Y, (51, .inl (upd (upd (upd (upd (upd (upd (upd (upd (upd (upd (upd (upd (upd (upd (upd (upd (upd (upd (upd (upd (upd (upd (upd (upd (upd (upd (upd (upd (upd (upd (upd (upd (upd (upd (upd (upd (upd (upd (upd (upd (upd (upd (upd (upd (upd (upd (upd (upd (upd (upd (upd (fun _ => 0) 0 112) 1 97) 2 114) 3 116) 4 115) 5 32) 6 0) 7 109) 8 97) 9 107) 10 101) 11 114) 12 32) 13 0) 14 107) 15 110) 16 111) 17 119) 18 115) 19 32) 20 0) 21 107) 22 105) 23 110) 24 32) 25 0) 26 102) 27 101) 28 97) 29 114) 30 32) 31 0) 32 112) 33 117) 34 114) 35 115) 36 101) 37 32) 38 0) 39 103) 40 111) 41 101) 42 115) 43 32) 44 0) 45 100) 46 105) 47 101) 48 115) 49 32) 50 0)))) :: (q13, .inl (kn_cJ Y, (160, .inr (.inl (fun _ => 0))))) :: (q12, .inl (kn_cJ Y, (1280, .inr (.inl (fun _ => 0))))) :: (q11, .inl (kn_cI Y, (8, .inl (fun _ => 0)))) :: (q10, .inl (kn_cI Y, (8, .inl (fun _ => 0)))) :: (q9, .inl (kn_cI Y, (8, .inl (fun _ => 0)))) :: (q8, .inl (kn_cI Y, (8, .inl (fun _ => 0)))) :: (q7, .inl (kn_cI Y, (8, .inl (fun _ => 0)))) :: (q6, .inl (kn_cI Y, (8, .inl (fun _ => 0)))) :: (q5, .inl (kn_cI Y, (8, .inl (fun _ => 0)))) :: (q4, .inl (kn_cI Y, (8, .inl (fun _ => 0)))) :: (q3, .inl (kn_cI Y, (8, .inl (fun _ => 0)))) :: (q2, .inl (kn_cI Y, (8, .inl (fun _ => 0)))) :: (q1, .inl (kn_cI Y, (8, .inl (fun _ => 0)))) :: (h0, .inr (7, [.int 0, .int 4, .int 0, .int 100, .int 0, .int 1, .int (-1 : Int32), .ref q1, .ref q2, .ref q3, .ref q4, .ref q5, .ref q6, .ref q7, .ref q8, .ref q9, .ref q10, .ref q11, .ref q12, .ref q13, .ref q14, .null, .null, .int 0, .int 0, .int 0, .int 0, .int 0, .null, .null, .null, .null, .null, .int 0, .null, .int 0, .int 0])) :: rest) (by rfl) ?_
  refine kn_dup (pc := 460) dk_Md_init_460 rfl ?_
  refine kn_bipush (pc := 461) (6 : Int32) dk_Md_init_461 cn_b_6 ?_
  refine kn_iconst (pc := 463) (1 : Int32) dk_Md_init_463 cn_i_1 ?_
  refine kn_iastore (pc := 464) (q0 := 0) 6 rfl (by unfold vp_in; decide +kernel) (by decide +kernel) dk_Md_init_464 ?_
  refine kn_dup (pc := 465) dk_Md_init_465 rfl ?_
  refine kn_bipush (pc := 466) (7 : Int32) dk_Md_init_466 cn_b_7 ?_
  refine kn_iconst (pc := 468) (1 : Int32) dk_Md_init_468 cn_i_1 ?_
  refine kn_iastore (pc := 469) (q0 := 0) 7 rfl (by unfold vp_in; decide +kernel) (by decide +kernel) dk_Md_init_469 ?_
  refine kn_putF (pc := 470) (q0 := 15) (C := RX7) (T := TX7) (N := 37) (t := 7) (j := 21) tyX7 tyX7_ok nmX7 rfl nm_nd7 (by decide) rfl rfl rfl rfl (tyX7_ok 21 (by decide)) rfl rfl (Nat.le_of_ble_eq_true rfl) wd_1078 dk_Md_init_470 ?_
  refine kn_aload_n (pc := 473) 0 0 dk_Md_init_473 rfl rfl ?_
  refine kn_iconst (pc := 474) (3 : Int32) dk_Md_init_474 cn_i_3 ?_
  refine kn_newI (pc := 475) 3 wd_160 (by decide +kernel) (by decide +kernel) (by decide +kernel) (by rw [hmc]; exact Nat.le_of_ble_eq_true rfl) (by rw [hms]; exact Nat.le_of_ble_eq_true rfl) dk_Md_init_475 (fun q16 => ?_)
  refine kn_putF (pc := 477) (q0 := 16) (C := RX7) (T := TX7) (N := 37) (t := 7) (j := 22) tyX7 tyX7_ok nmX7 rfl nm_nd7 (by decide) rfl rfl rfl rfl (tyX7_ok 22 (by decide)) rfl rfl (Nat.le_of_ble_eq_true rfl) wd_1079 dk_Md_init_477 ?_
  refine kn_aload_n (pc := 480) 0 0 dk_Md_init_480 rfl rfl ?_
  refine kn_bipush (pc := 481) (60 : Int32) dk_Md_init_481 cn_b_60 ?_
  refine kn_newI (pc := 483) 60 wd_160 (by decide +kernel) (by decide +kernel) (by decide +kernel) (by rw [hmc]; exact Nat.le_of_ble_eq_true rfl) (by rw [hms]; exact Nat.le_of_ble_eq_true rfl) dk_Md_init_483 (fun q17 => ?_)
  refine kn_putF (pc := 485) (q0 := 17) (C := RX7) (T := TX7) (N := 37) (t := 7) (j := 28) tyX7 tyX7_ok nmX7 rfl nm_nd7 (by decide) rfl rfl rfl rfl (tyX7_ok 28 (by decide)) rfl rfl (Nat.le_of_ble_eq_true rfl) wd_1085 dk_Md_init_485 ?_
  refine kn_eq (ws' := (q17, .inl (kn_cI Y, (60, .inl (fun _ => 0)))) :: (q16, .inl (kn_cI Y, (3, .inl (fun _ => 0)))) :: (q15, .inl (kn_cI Y, (8, .inl (upd (upd (upd (upd (upd (upd (upd (upd (fun _ => 0) 0 1) 1 3) 2 2) 3 2) 4 1) 5 1) 6 1) 7 1)))) :: (q14, .inl (kn_cI Y, (51, .inl (upd (upd (upd (upd (upd (upd (upd (upd (upd (upd (upd (upd (upd (upd (upd (upd (upd (upd (upd (upd (upd (upd (upd (upd (upd (upd (upd (upd (upd (upd (upd (upd (upd (upd (upd (upd (upd (upd (upd (upd (upd (upd (upd (upd (upd (upd (upd (upd (upd (upd (upd (fun _ => 0) 0 112) 1 97) 2 114) 3 116) 4 115) 5 32) 6 0) 7 109) 8 97) 9 107) 10 101) 11 114) 12 32) 13 0) 14 107) 15 110) 16 111) 17 119) 18 115) 19 32) 20 0) 21 107) 22 105) 23 110) 24 32) 25 0) 26 102) 27 101) 28 97) 29 114) 30 32) 31 0) 32 112) 33 117) 34 114) 35 115) 36 101) 37 32) 38 0) 39 103) 40 111) 41 101) 42 115) 43 32) 44 0) 45 100) 46 105) 47 101) 48 115) 49 32) 50 0)))) :: (q13, .inl (kn_cJ Y, (160, .inr (.inl (fun _ => 0))))) :: (q12, .inl (kn_cJ Y, (1280, .inr (.inl (fun _ => 0))))) :: (q11, .inl (kn_cI Y, (8, .inl (fun _ => 0)))) :: (q10, .inl (kn_cI Y, (8, .inl (fun _ => 0)))) :: (q9, .inl (kn_cI Y, (8, .inl (fun _ => 0)))) :: (q8, .inl (kn_cI Y, (8, .inl (fun _ => 0)))) :: (q7, .inl (kn_cI Y, (8, .inl (fun _ => 0)))) :: (q6, .inl (kn_cI Y, (8, .inl (fun _ => 0)))) :: (q5, .inl (kn_cI Y, (8, .inl (fun _ => 0)))) :: (q4, .inl (kn_cI Y, (8, .inl (fun _ => 0)))) :: (q3, .inl (kn_cI Y, (8, .inl (fun _ => 0)))) :: (q2, .inl (kn_cI Y, (8, .inl (fun _ => 0)))) :: (q1, .inl (kn_cI Y, (8, .inl (fun _ => 0)))) :: (h0, .inr (7, [.int 0, .int 4, .int 0, .int 100, .int 0, .int 1, .int (-1 : Int32), .ref q1, .ref q2, .ref q3, .ref q4, .ref q5, .ref q6, .ref q7, .ref q8, .ref q9, .ref q10, .ref q11, .ref q12, .ref q13, .ref q14, .ref q15, .ref q16, .int 0, .int 0, .int 0, .int 0, .int 0, .ref q17, .null, .null, .null, .null, .int 0, .null, .int 0, .int 0])) :: rest) (by rfl) ?_
  refine kn_aload_n (pc := 488) 0 0 dk_Md_init_488 rfl rfl ?_
  refine kn_bipush (pc := 489) (60 : Int32) dk_Md_init_489 cn_b_60 ?_
  refine kn_newI (pc := 491) 60 wd_160 (by decide +kernel) (by decide +kernel) (by decide +kernel) (by rw [hmc]; exact Nat.le_of_ble_eq_true rfl) (by rw [hms]; exact Nat.le_of_ble_eq_true rfl) dk_Md_init_491 (fun q18 => ?_)
  refine kn_putF (pc := 493) (q0 := 18) (C := RX7) (T := TX7) (N := 37) (t := 7) (j := 29) tyX7 tyX7_ok nmX7 rfl nm_nd7 (by decide) rfl rfl rfl rfl (tyX7_ok 29 (by decide)) rfl rfl (Nat.le_of_ble_eq_true rfl) wd_1086 dk_Md_init_493 ?_
  refine kn_aload_n (pc := 496) 0 0 dk_Md_init_496 rfl rfl ?_
  refine kn_bipush (pc := 497) (60 : Int32) dk_Md_init_497 cn_b_60 ?_
  refine kn_newI (pc := 499) 60 wd_160 (by decide +kernel) (by decide +kernel) (by decide +kernel) (by rw [hmc]; exact Nat.le_of_ble_eq_true rfl) (by rw [hms]; exact Nat.le_of_ble_eq_true rfl) dk_Md_init_499 (fun q19 => ?_)
  refine kn_putF (pc := 501) (q0 := 19) (C := RX7) (T := TX7) (N := 37) (t := 7) (j := 30) tyX7 tyX7_ok nmX7 rfl nm_nd7 (by decide) rfl rfl rfl rfl (tyX7_ok 30 (by decide)) rfl rfl (Nat.le_of_ble_eq_true rfl) wd_1087 dk_Md_init_501 ?_
  refine kn_aload_n (pc := 504) 0 0 dk_Md_init_504 rfl rfl ?_
  refine kn_iconst (pc := 505) (2 : Int32) dk_Md_init_505 cn_i_2 ?_
  refine kn_newI (pc := 506) 2 wd_160 (by decide +kernel) (by decide +kernel) (by decide +kernel) (by rw [hmc]; exact Nat.le_of_ble_eq_true rfl) (by rw [hms]; exact Nat.le_of_ble_eq_true rfl) dk_Md_init_506 (fun q20 => ?_)
  refine kn_putF (pc := 508) (q0 := 20) (C := RX7) (T := TX7) (N := 37) (t := 7) (j := 31) tyX7 tyX7_ok nmX7 rfl nm_nd7 (by decide) rfl rfl rfl rfl (tyX7_ok 31 (by decide)) rfl rfl (Nat.le_of_ble_eq_true rfl) wd_1088 dk_Md_init_508 ?_
  refine kn_aload_n (pc := 511) 0 0 dk_Md_init_511 rfl rfl ?_
  refine kn_iconst (pc := 512) (2 : Int32) dk_Md_init_512 cn_i_2 ?_
  refine kn_newI (pc := 513) 2 wd_160 (by decide +kernel) (by decide +kernel) (by decide +kernel) (by rw [hmc]; exact Nat.le_of_ble_eq_true rfl) (by rw [hms]; exact Nat.le_of_ble_eq_true rfl) dk_Md_init_513 (fun q21 => ?_)
  refine kn_putF (pc := 515) (q0 := 21) (C := RX7) (T := TX7) (N := 37) (t := 7) (j := 32) tyX7 tyX7_ok nmX7 rfl nm_nd7 (by decide) rfl rfl rfl rfl (tyX7_ok 32 (by decide)) rfl rfl (Nat.le_of_ble_eq_true rfl) wd_1089 dk_Md_init_515 ?_
  refine kn_aload_n (pc := 518) 0 0 dk_Md_init_518 rfl rfl ?_
  refine kn_bipush (pc := 519) (20 : Int32) dk_Md_init_519 cn_b_20 ?_
  refine kn_newI (pc := 521) 20 wd_160 (by decide +kernel) (by decide +kernel) (by decide +kernel) (by rw [hmc]; exact Nat.le_of_ble_eq_true rfl) (by rw [hms]; exact Nat.le_of_ble_eq_true rfl) dk_Md_init_521 (fun q22 => ?_)
  refine kn_putF (pc := 523) (q0 := 22) (C := RX7) (T := TX7) (N := 37) (t := 7) (j := 34) tyX7 tyX7_ok nmX7 rfl nm_nd7 (by decide) rfl rfl rfl rfl (tyX7_ok 34 (by decide)) rfl rfl (Nat.le_of_ble_eq_true rfl) wd_1091 dk_Md_init_523 ?_
  refine kn_eq (ws' := (q22, .inl (kn_cI Y, (20, .inl (fun _ => 0)))) :: (q21, .inl (kn_cI Y, (2, .inl (fun _ => 0)))) :: (q20, .inl (kn_cI Y, (2, .inl (fun _ => 0)))) :: (q19, .inl (kn_cI Y, (60, .inl (fun _ => 0)))) :: (q18, .inl (kn_cI Y, (60, .inl (fun _ => 0)))) :: (q17, .inl (kn_cI Y, (60, .inl (fun _ => 0)))) :: (q16, .inl (kn_cI Y, (3, .inl (fun _ => 0)))) :: (q15, .inl (kn_cI Y, (8, .inl (upd (upd (upd (upd (upd (upd (upd (upd (fun _ => 0) 0 1) 1 3) 2 2) 3 2) 4 1) 5 1) 6 1) 7 1)))) :: (q14, .inl (kn_cI Y, (51, .inl (upd (upd (upd (upd (upd (upd (upd (upd (upd (upd (upd (upd (upd (upd (upd (upd (upd (upd (upd (upd (upd (upd (upd (upd (upd (upd (upd (upd (upd (upd (upd (upd (upd (upd (upd (upd (upd (upd (upd (upd (upd (upd (upd (upd (upd (upd (upd (upd (upd (upd (upd (fun _ => 0) 0 112) 1 97) 2 114) 3 116) 4 115) 5 32) 6 0) 7 109) 8 97) 9 107) 10 101) 11 114) 12 32) 13 0) 14 107) 15 110) 16 111) 17 119) 18 115) 19 32) 20 0) 21 107) 22 105) 23 110) 24 32) 25 0) 26 102) 27 101) 28 97) 29 114) 30 32) 31 0) 32 112) 33 117) 34 114) 35 115) 36 101) 37 32) 38 0) 39 103) 40 111) 41 101) 42 115) 43 32) 44 0) 45 100) 46 105) 47 101) 48 115) 49 32) 50 0)))) :: (q13, .inl (kn_cJ Y, (160, .inr (.inl (fun _ => 0))))) :: (q12, .inl (kn_cJ Y, (1280, .inr (.inl (fun _ => 0))))) :: (q11, .inl (kn_cI Y, (8, .inl (fun _ => 0)))) :: (q10, .inl (kn_cI Y, (8, .inl (fun _ => 0)))) :: (q9, .inl (kn_cI Y, (8, .inl (fun _ => 0)))) :: (q8, .inl (kn_cI Y, (8, .inl (fun _ => 0)))) :: (q7, .inl (kn_cI Y, (8, .inl (fun _ => 0)))) :: (q6, .inl (kn_cI Y, (8, .inl (fun _ => 0)))) :: (q5, .inl (kn_cI Y, (8, .inl (fun _ => 0)))) :: (q4, .inl (kn_cI Y, (8, .inl (fun _ => 0)))) :: (q3, .inl (kn_cI Y, (8, .inl (fun _ => 0)))) :: (q2, .inl (kn_cI Y, (8, .inl (fun _ => 0)))) :: (q1, .inl (kn_cI Y, (8, .inl (fun _ => 0)))) :: (h0, .inr (7, [.int 0, .int 4, .int 0, .int 100, .int 0, .int 1, .int (-1 : Int32), .ref q1, .ref q2, .ref q3, .ref q4, .ref q5, .ref q6, .ref q7, .ref q8, .ref q9, .ref q10, .ref q11, .ref q12, .ref q13, .ref q14, .ref q15, .ref q16, .int 0, .int 0, .int 0, .int 0, .int 0, .ref q17, .ref q18, .ref q19, .ref q20, .ref q21, .int 0, .ref q22, .int 0, .int 0])) :: rest) (by rfl) ?_
  exact kn_ret (pc := 526) [(q22, .inl (kn_cI Y, (20, .inl (fun _ => 0)))), (q21, .inl (kn_cI Y, (2, .inl (fun _ => 0)))), (q20, .inl (kn_cI Y, (2, .inl (fun _ => 0)))), (q19, .inl (kn_cI Y, (60, .inl (fun _ => 0)))), (q18, .inl (kn_cI Y, (60, .inl (fun _ => 0)))), (q17, .inl (kn_cI Y, (60, .inl (fun _ => 0)))), (q16, .inl (kn_cI Y, (3, .inl (fun _ => 0)))), (q15, .inl (kn_cI Y, (8, .inl (upd (upd (upd (upd (upd (upd (upd (upd (fun _ => 0) 0 1) 1 3) 2 2) 3 2) 4 1) 5 1) 6 1) 7 1)))), (q14, .inl (kn_cI Y, (51, .inl (upd (upd (upd (upd (upd (upd (upd (upd (upd (upd (upd (upd (upd (upd (upd (upd (upd (upd (upd (upd (upd (upd (upd (upd (upd (upd (upd (upd (upd (upd (upd (upd (upd (upd (upd (upd (upd (upd (upd (upd (upd (upd (upd (upd (upd (upd (upd (upd (upd (upd (upd (fun _ => 0) 0 112) 1 97) 2 114) 3 116) 4 115) 5 32) 6 0) 7 109) 8 97) 9 107) 10 101) 11 114) 12 32) 13 0) 14 107) 15 110) 16 111) 17 119) 18 115) 19 32) 20 0) 21 107) 22 105) 23 110) 24 32) 25 0) 26 102) 27 101) 28 97) 29 114) 30 32) 31 0) 32 112) 33 117) 34 114) 35 115) 36 101) 37 32) 38 0) 39 103) 40 111) 41 101) 42 115) 43 32) 44 0) 45 100) 46 105) 47 101) 48 115) 49 32) 50 0)))), (q13, .inl (kn_cJ Y, (160, .inr (.inl (fun _ => 0))))), (q12, .inl (kn_cJ Y, (1280, .inr (.inl (fun _ => 0))))), (q11, .inl (kn_cI Y, (8, .inl (fun _ => 0)))), (q10, .inl (kn_cI Y, (8, .inl (fun _ => 0)))), (q9, .inl (kn_cI Y, (8, .inl (fun _ => 0)))), (q8, .inl (kn_cI Y, (8, .inl (fun _ => 0)))), (q7, .inl (kn_cI Y, (8, .inl (fun _ => 0)))), (q6, .inl (kn_cI Y, (8, .inl (fun _ => 0)))), (q5, .inl (kn_cI Y, (8, .inl (fun _ => 0)))), (q4, .inl (kn_cI Y, (8, .inl (fun _ => 0)))), (q3, .inl (kn_cI Y, (8, .inl (fun _ => 0)))), (q2, .inl (kn_cI Y, (8, .inl (fun _ => 0)))), (q1, .inl (kn_cI Y, (8, .inl (fun _ => 0)))), (h0, .inr (7, [.int 0, .int 4, .int 0, .int 100, .int 0, .int 1, .int (-1 : Int32), .ref q1, .ref q2, .ref q3, .ref q4, .ref q5, .ref q6, .ref q7, .ref q8, .ref q9, .ref q10, .ref q11, .ref q12, .ref q13, .ref q14, .ref q15, .ref q16, .int 0, .int 0, .int 0, .int 0, .int 0, .ref q17, .ref q18, .ref q19, .ref q20, .ref q21, .int 0, .ref q22, .int 0, .int 0]))] rfl dk_Md_init_526 rfl ⟨q1, q2, q3, q4, q5, q6, q7, q8, q9, q10, q11, q12, q13, q14, q15, q16, q17, q18, q19, q20, q21, q22, rfl⟩ rfl rfl
