/-! by program: what the constructors make -/
/-- what NoneMayLeave$Island() leaves, newest first -/
def pn_Is_init (Y : kn_Y) (h0 : Nat) (w : va_W) : Prop := ∃ q1 q2 q3 q4 q5 q6 : Nat, w = [(q6, .inl (kn_cI Y, (8, .inl (fun _ => 0)))), (q5, .inl (kn_cI Y, (8, .inl (fun _ => 0)))), (q4, .inl (kn_cI Y, (8, .inl (fun _ => 0)))), (q3, .inl (kn_cI Y, (8, .inl (fun _ => 0)))), (q2, .inl (kn_cI Y, (8, .inl (fun _ => 0)))), (q1, .inl (kn_cI Y, (8, .inl (fun _ => 0)))), (h0, .inr (1, [.ref q1, .ref q2, .ref q3, .ref q4, .ref q5, .ref q6, .int 0, .int 4, .int 0, .int 100, .int 0, .int 1]))]
set_option maxRecDepth 100000 in
set_option maxHeartbeats 8000000 in
theorem kc_Is_init {Y : kn_Y} : KC Y mi_Is_init 1 1 [.null, .null, .null, .null, .null, .null, .int 0, .int 0, .int 0, .int 0, .int 0, .int 0] (pn_Is_init Y) 6 48 := by
  refine KC.of (by decide +kernel) rfl (fun F h0 rest hF0 hmc hms => ?_)
  refine kn_aload_n (pc := 0) 0 0 dk_Is_init_0 rfl rfl ?_
  refine kn_obj (pc := 1) wd_110 kb_o1 kb_o2 (Nat.le_trans (Nat.le_of_ble_eq_true rfl) hF0) dk_Is_init_1 ?_
  refine kn_aload_n (pc := 4) 0 0 dk_Is_init_4 rfl rfl ?_
  refine kn_bipush (pc := 5) (8 : Int32) dk_Is_init_5 cn_b_8 ?_
  refine kn_newI (pc := 7) 8 wd_160 (by decide +kernel) (by decide +kernel) (by decide +kernel) (by rw [hmc]; exact Nat.le_of_ble_eq_true rfl) (by rw [hms]; exact Nat.le_of_ble_eq_true rfl) dk_Is_init_7 (fun q1 => ?_)
  refine kn_putF (pc := 9) (q0 := 1) (C := RX1) (T := TX1) (N := 12) (t := 1) (j := 0) tyX1 tyX1_ok nmX1 rfl nm_nd1 (by decide) rfl rfl rfl rfl (tyX1_ok 0 (by decide)) rfl rfl (Nat.le_of_ble_eq_true rfl) wd_111 dk_Is_init_9 ?_
  refine kn_aload_n (pc := 12) 0 0 dk_Is_init_12 rfl rfl ?_
  refine kn_bipush (pc := 13) (8 : Int32) dk_Is_init_13 cn_b_8 ?_
  refine kn_newI (pc := 15) 8 wd_160 (by decide +kernel) (by decide +kernel) (by decide +kernel) (by rw [hmc]; exact Nat.le_of_ble_eq_true rfl) (by rw [hms]; exact Nat.le_of_ble_eq_true rfl) dk_Is_init_15 (fun q2 => ?_)
  refine kn_putF (pc := 17) (q0 := 2) (C := RX1) (T := TX1) (N := 12) (t := 1) (j := 1) tyX1 tyX1_ok nmX1 rfl nm_nd1 (by decide) rfl rfl rfl rfl (tyX1_ok 1 (by decide)) rfl rfl (Nat.le_of_ble_eq_true rfl) wd_112 dk_Is_init_17 ?_
  refine kn_aload_n (pc := 20) 0 0 dk_Is_init_20 rfl rfl ?_
  refine kn_bipush (pc := 21) (8 : Int32) dk_Is_init_21 cn_b_8 ?_
  refine kn_newI (pc := 23) 8 wd_160 (by decide +kernel) (by decide +kernel) (by decide +kernel) (by rw [hmc]; exact Nat.le_of_ble_eq_true rfl) (by rw [hms]; exact Nat.le_of_ble_eq_true rfl) dk_Is_init_23 (fun q3 => ?_)
  refine kn_putF (pc := 25) (q0 := 3) (C := RX1) (T := TX1) (N := 12) (t := 1) (j := 2) tyX1 tyX1_ok nmX1 rfl nm_nd1 (by decide) rfl rfl rfl rfl (tyX1_ok 2 (by decide)) rfl rfl (Nat.le_of_ble_eq_true rfl) wd_113 dk_Is_init_25 ?_
  refine kn_aload_n (pc := 28) 0 0 dk_Is_init_28 rfl rfl ?_
  refine kn_bipush (pc := 29) (8 : Int32) dk_Is_init_29 cn_b_8 ?_
  refine kn_newI (pc := 31) 8 wd_160 (by decide +kernel) (by decide +kernel) (by decide +kernel) (by rw [hmc]; exact Nat.le_of_ble_eq_true rfl) (by rw [hms]; exact Nat.le_of_ble_eq_true rfl) dk_Is_init_31 (fun q4 => ?_)
  refine kn_putF (pc := 33) (q0 := 4) (C := RX1) (T := TX1) (N := 12) (t := 1) (j := 3) tyX1 tyX1_ok nmX1 rfl nm_nd1 (by decide) rfl rfl rfl rfl (tyX1_ok 3 (by decide)) rfl rfl (Nat.le_of_ble_eq_true rfl) wd_114 dk_Is_init_33 ?_
  refine kn_aload_n (pc := 36) 0 0 dk_Is_init_36 rfl rfl ?_
  refine kn_bipush (pc := 37) (8 : Int32) dk_Is_init_37 cn_b_8 ?_
  refine kn_newI (pc := 39) 8 wd_160 (by decide +kernel) (by decide +kernel) (by decide +kernel) (by rw [hmc]; exact Nat.le_of_ble_eq_true rfl) (by rw [hms]; exact Nat.le_of_ble_eq_true rfl) dk_Is_init_39 (fun q5 => ?_)
  refine kn_putF (pc := 41) (q0 := 5) (C := RX1) (T := TX1) (N := 12) (t := 1) (j := 4) tyX1 tyX1_ok nmX1 rfl nm_nd1 (by decide) rfl rfl rfl rfl (tyX1_ok 4 (by decide)) rfl rfl (Nat.le_of_ble_eq_true rfl) wd_116 dk_Is_init_41 ?_
  refine kn_eq (ws' := (q5, .inl (kn_cI Y, (8, .inl (fun _ => 0)))) :: (q4, .inl (kn_cI Y, (8, .inl (fun _ => 0)))) :: (q3, .inl (kn_cI Y, (8, .inl (fun _ => 0)))) :: (q2, .inl (kn_cI Y, (8, .inl (fun _ => 0)))) :: (q1, .inl (kn_cI Y, (8, .inl (fun _ => 0)))) :: (h0, .inr (1, [.ref q1, .ref q2, .ref q3, .ref q4, .ref q5, .null, .int 0, .int 0, .int 0, .int 0, .int 0, .int 0])) :: rest) (by rfl) ?_
  refine kn_aload_n (pc := 44) 0 0 dk_Is_init_44 rfl rfl ?_
  refine kn_bipush (pc := 45) (8 : Int32) dk_Is_init_45 cn_b_8 ?_
  refine kn_newI (pc := 47) 8 wd_160 (by decide +kernel) (by decide +kernel) (by decide +kernel) (by rw [hmc]; exact Nat.le_of_ble_eq_true rfl) (by rw [hms]; exact Nat.le_of_ble_eq_true rfl) dk_Is_init_47 (fun q6 => ?_)
  refine kn_putF (pc := 49) (q0 := 6) (C := RX1) (T := TX1) (N := 12) (t := 1) (j := 5) tyX1 tyX1_ok nmX1 rfl nm_nd1 (by decide) rfl rfl rfl rfl (tyX1_ok 5 (by decide)) rfl rfl (Nat.le_of_ble_eq_true rfl) wd_117 dk_Is_init_49 ?_
  refine kn_aload_n (pc := 52) 0 0 dk_Is_init_52 rfl rfl ?_
  refine kn_iconst (pc := 53) (0 : Int32) dk_Is_init_53 cn_i_0 ?_
  refine kn_put (pc := 54) (q0 := 6) (C := RX1) (T := TX1) (N := 12) (t := 1) (j := 6) tyX1 tyX1_ok nmX1 rfl nm_nd1 (by decide) rfl rfl (tyX1_ok 6 (by decide)) rfl rfl (Nat.le_of_ble_eq_true rfl) wd_118 dk_Is_init_54 ?_
  refine kn_aload_n (pc := 57) 0 0 dk_Is_init_57 rfl rfl ?_
  refine kn_iconst (pc := 58) (4 : Int32) dk_Is_init_58 cn_i_4 ?_
  refine kn_put (pc := 59) (q0 := 6) (C := RX1) (T := TX1) (N := 12) (t := 1) (j := 7) tyX1 tyX1_ok nmX1 rfl nm_nd1 (by decide) rfl rfl (tyX1_ok 7 (by decide)) rfl rfl (Nat.le_of_ble_eq_true rfl) wd_121 dk_Is_init_59 ?_
  refine kn_aload_n (pc := 62) 0 0 dk_Is_init_62 rfl rfl ?_
  refine kn_iconst (pc := 63) (0 : Int32) dk_Is_init_63 cn_i_0 ?_
  refine kn_put (pc := 64) (q0 := 6) (C := RX1) (T := TX1) (N := 12) (t := 1) (j := 8) tyX1 tyX1_ok nmX1 rfl nm_nd1 (by decide) rfl rfl (tyX1_ok 8 (by decide)) rfl rfl (Nat.le_of_ble_eq_true rfl) wd_124 dk_Is_init_64 ?_
  refine kn_aload_n (pc := 67) 0 0 dk_Is_init_67 rfl rfl ?_
  refine kn_bipush (pc := 68) (100 : Int32) dk_Is_init_68 cn_b_100 ?_
  refine kn_put (pc := 70) (q0 := 6) (C := RX1) (T := TX1) (N := 12) (t := 1) (j := 9) tyX1 tyX1_ok nmX1 rfl nm_nd1 (by decide) rfl rfl (tyX1_ok 9 (by decide)) rfl rfl (Nat.le_of_ble_eq_true rfl) wd_127 dk_Is_init_70 ?_
  refine kn_eq (ws' := (q6, .inl (kn_cI Y, (8, .inl (fun _ => 0)))) :: (q5, .inl (kn_cI Y, (8, .inl (fun _ => 0)))) :: (q4, .inl (kn_cI Y, (8, .inl (fun _ => 0)))) :: (q3, .inl (kn_cI Y, (8, .inl (fun _ => 0)))) :: (q2, .inl (kn_cI Y, (8, .inl (fun _ => 0)))) :: (q1, .inl (kn_cI Y, (8, .inl (fun _ => 0)))) :: (h0, .inr (1, [.ref q1, .ref q2, .ref q3, .ref q4, .ref q5, .ref q6, .int 0, .int 4, .int 0, .int 100, .int 0, .int 0])) :: rest) (by rfl) ?_
  refine kn_aload_n (pc := 73) 0 0 dk_Is_init_73 rfl rfl ?_
  refine kn_iconst (pc := 74) (0 : Int32) dk_Is_init_74 cn_i_0 ?_
  refine kn_put (pc := 75) (q0 := 6) (C := RX1) (T := TX1) (N := 12) (t := 1) (j := 10) tyX1 tyX1_ok nmX1 rfl nm_nd1 (by decide) rfl rfl (tyX1_ok 10 (by decide)) rfl rfl (Nat.le_of_ble_eq_true rfl) wd_131 dk_Is_init_75 ?_
  refine kn_aload_n (pc := 78) 0 0 dk_Is_init_78 rfl rfl ?_
  refine kn_iconst (pc := 79) (1 : Int32) dk_Is_init_79 cn_i_1 ?_
  refine kn_put (pc := 80) (q0 := 6) (C := RX1) (T := TX1) (N := 12) (t := 1) (j := 11) tyX1 tyX1_ok nmX1 rfl nm_nd1 (by decide) rfl rfl (tyX1_ok 11 (by decide)) rfl rfl (Nat.le_of_ble_eq_true rfl) wd_133 dk_Is_init_80 ?_
  exact kn_ret (pc := 83) [(q6, .inl (kn_cI Y, (8, .inl (fun _ => 0)))), (q5, .inl (kn_cI Y, (8, .inl (fun _ => 0)))), (q4, .inl (kn_cI Y, (8, .inl (fun _ => 0)))), (q3, .inl (kn_cI Y, (8, .inl (fun _ => 0)))), (q2, .inl (kn_cI Y, (8, .inl (fun _ => 0)))), (q1, .inl (kn_cI Y, (8, .inl (fun _ => 0)))), (h0, .inr (1, [.ref q1, .ref q2, .ref q3, .ref q4, .ref q5, .ref q6, .int 0, .int 4, .int 0, .int 100, .int 0, .int 1]))] rfl dk_Is_init_83 rfl ⟨q1, q2, q3, q4, q5, q6, rfl⟩ rfl rfl
/-- what NoneMayLeave$Shelf() leaves, newest first -/
def pn_Sh_init (Y : kn_Y) (h0 : Nat) (w : va_W) : Prop := ∃ q1 : Nat, w = [(q1, .inl (kn_cJ Y, (160, .inr (.inl (fun _ => 0))))), (h0, .inr (4, [.ref q1, .int 0, .int 0, .int 0, .int (-1 : Int32)]))]
set_option maxRecDepth 100000 in
set_option maxHeartbeats 8000000 in
theorem kc_Sh_init {Y : kn_Y} : KC Y mi_Sh_init 1 4 [.null, .int 0, .int 0, .int 0, .int 0] (pn_Sh_init Y) 1 160 := by
  refine KC.of (by decide +kernel) rfl (fun F h0 rest hF0 hmc hms => ?_)
  refine kn_aload_n (pc := 0) 0 0 dk_Sh_init_0 rfl rfl ?_
  refine kn_obj (pc := 1) wd_266 kb_o1 kb_o2 (Nat.le_trans (Nat.le_of_ble_eq_true rfl) hF0) dk_Sh_init_1 ?_
  refine kn_aload_n (pc := 4) 0 0 dk_Sh_init_4 rfl rfl ?_
  refine kn_sipush (pc := 5) (160 : Int32) dk_Sh_init_5 cn_s_160 ?_
  refine kn_newJ (pc := 8) 160 wd_286 (by decide +kernel) (by decide +kernel) (by decide +kernel) (by rw [hmc]; exact Nat.le_of_ble_eq_true rfl) (by rw [hms]; exact Nat.le_of_ble_eq_true rfl) dk_Sh_init_8 (fun q1 => ?_)
  refine kn_putF (pc := 10) (q0 := 1) (C := RX4) (T := TX4) (N := 5) (t := 4) (j := 0) tyX4 tyX4_ok nmX4 rfl nm_nd4 (by decide) rfl rfl rfl rfl (tyX4_ok 0 (by decide)) rfl rfl (Nat.le_of_ble_eq_true rfl) wd_267 dk_Sh_init_10 ?_
  refine kn_aload_n (pc := 13) 0 0 dk_Sh_init_13 rfl rfl ?_
  refine kn_iconst (pc := 14) (0 : Int32) dk_Sh_init_14 cn_i_0 ?_
  refine kn_put (pc := 15) (q0 := 1) (C := RX4) (T := TX4) (N := 5) (t := 4) (j := 1) tyX4 tyX4_ok nmX4 rfl nm_nd4 (by decide) rfl rfl (tyX4_ok 1 (by decide)) rfl rfl (Nat.le_of_ble_eq_true rfl) wd_268 dk_Sh_init_15 ?_
  refine kn_aload_n (pc := 18) 0 0 dk_Sh_init_18 rfl rfl ?_
  refine kn_iconst (pc := 19) (0 : Int32) dk_Sh_init_19 cn_i_0 ?_
  refine kn_put (pc := 20) (q0 := 1) (C := RX4) (T := TX4) (N := 5) (t := 4) (j := 2) tyX4 tyX4_ok nmX4 rfl nm_nd4 (by decide) rfl rfl (tyX4_ok 2 (by decide)) rfl rfl (Nat.le_of_ble_eq_true rfl) wd_269 dk_Sh_init_20 ?_
  refine kn_aload_n (pc := 23) 0 0 dk_Sh_init_23 rfl rfl ?_
  refine kn_iconst (pc := 24) (0 : Int32) dk_Sh_init_24 cn_i_0 ?_
  refine kn_put (pc := 25) (q0 := 1) (C := RX4) (T := TX4) (N := 5) (t := 4) (j := 3) tyX4 tyX4_ok nmX4 rfl nm_nd4 (by decide) rfl rfl (tyX4_ok 3 (by decide)) rfl rfl (Nat.le_of_ble_eq_true rfl) wd_271 dk_Sh_init_25 ?_
  refine kn_aload_n (pc := 28) 0 0 dk_Sh_init_28 rfl rfl ?_
  refine kn_iconst (pc := 29) (-1 : Int32) dk_Sh_init_29 cn_i_m1 ?_
  refine kn_put (pc := 30) (q0 := 1) (C := RX4) (T := TX4) (N := 5) (t := 4) (j := 4) tyX4 tyX4_ok nmX4 rfl nm_nd4 (by decide) rfl rfl (tyX4_ok 4 (by decide)) rfl rfl (Nat.le_of_ble_eq_true rfl) wd_274 dk_Sh_init_30 ?_
  refine kn_eq (ws' := (q1, .inl (kn_cJ Y, (160, .inr (.inl (fun _ => 0))))) :: (h0, .inr (4, [.ref q1, .int 0, .int 0, .int 0, .int (-1 : Int32)])) :: rest) (by rfl) ?_
  exact kn_ret (pc := 33) [(q1, .inl (kn_cJ Y, (160, .inr (.inl (fun _ => 0))))), (h0, .inr (4, [.ref q1, .int 0, .int 0, .int 0, .int (-1 : Int32)]))] rfl dk_Sh_init_33 rfl ⟨q1, rfl⟩ rfl rfl
/-- what NoneMayLeave$Sets() leaves, newest first -/
def pn_Se_init (Y : kn_Y) (h0 : Nat) (w : va_W) : Prop := ∃ q1 q2 q3 : Nat, w = [(q3, .inl (kn_cI Y, (256, .inl (fun _ => 0)))), (q2, .inl (kn_cI Y, (256, .inl (fun _ => 0)))), (q1, .inl (kn_cI Y, (256, .inl (fun _ => 0)))), (h0, .inr (3, [.ref q1, .ref q2, .ref q3, .int 1]))]
set_option maxRecDepth 100000 in
set_option maxHeartbeats 8000000 in
theorem kc_Se_init {Y : kn_Y} : KC Y mi_Se_init 1 3 [.null, .null, .null, .int 0] (pn_Se_init Y) 3 768 := by
  refine KC.of (by decide +kernel) rfl (fun F h0 rest hF0 hmc hms => ?_)
  refine kn_aload_n (pc := 0) 0 0 dk_Se_init_0 rfl rfl ?_
  refine kn_obj (pc := 1) wd_166 kb_o1 kb_o2 (Nat.le_trans (Nat.le_of_ble_eq_true rfl) hF0) dk_Se_init_1 ?_
  refine kn_aload_n (pc := 4) 0 0 dk_Se_init_4 rfl rfl ?_
  refine kn_sipush (pc := 5) (256 : Int32) dk_Se_init_5 cn_s_256 ?_
  refine kn_newI (pc := 8) 256 wd_160 (by decide +kernel) (by decide +kernel) (by decide +kernel) (by rw [hmc]; exact Nat.le_of_ble_eq_true rfl) (by rw [hms]; exact Nat.le_of_ble_eq_true rfl) dk_Se_init_8 (fun q1 => ?_)
  refine kn_putF (pc := 10) (q0 := 1) (C := RX3) (T := TX3) (N := 4) (t := 3) (j := 0) tyX3 tyX3_ok nmX3 rfl nm_nd3 (by decide) rfl rfl rfl rfl (tyX3_ok 0 (by decide)) rfl rfl (Nat.le_of_ble_eq_true rfl) wd_167 dk_Se_init_10 ?_
  refine kn_aload_n (pc := 13) 0 0 dk_Se_init_13 rfl rfl ?_
  refine kn_sipush (pc := 14) (256 : Int32) dk_Se_init_14 cn_s_256 ?_
  refine kn_newI (pc := 17) 256 wd_160 (by decide +kernel) (by decide +kernel) (by decide +kernel) (by rw [hmc]; exact Nat.le_of_ble_eq_true rfl) (by rw [hms]; exact Nat.le_of_ble_eq_true rfl) dk_Se_init_17 (fun q2 => ?_)
  refine kn_putF (pc := 19) (q0 := 2) (C := RX3) (T := TX3) (N := 4) (t := 3) (j := 1) tyX3 tyX3_ok nmX3 rfl nm_nd3 (by decide) rfl rfl rfl rfl (tyX3_ok 1 (by decide)) rfl rfl (Nat.le_of_ble_eq_true rfl) wd_168 dk_Se_init_19 ?_
  refine kn_aload_n (pc := 22) 0 0 dk_Se_init_22 rfl rfl ?_
  refine kn_sipush (pc := 23) (256 : Int32) dk_Se_init_23 cn_s_256 ?_
  refine kn_newI (pc := 26) 256 wd_160 (by decide +kernel) (by decide +kernel) (by decide +kernel) (by rw [hmc]; exact Nat.le_of_ble_eq_true rfl) (by rw [hms]; exact Nat.le_of_ble_eq_true rfl) dk_Se_init_26 (fun q3 => ?_)
  refine kn_putF (pc := 28) (q0 := 3) (C := RX3) (T := TX3) (N := 4) (t := 3) (j := 2) tyX3 tyX3_ok nmX3 rfl nm_nd3 (by decide) rfl rfl rfl rfl (tyX3_ok 2 (by decide)) rfl rfl (Nat.le_of_ble_eq_true rfl) wd_169 dk_Se_init_28 ?_
  refine kn_aload_n (pc := 31) 0 0 dk_Se_init_31 rfl rfl ?_
  refine kn_iconst (pc := 32) (1 : Int32) dk_Se_init_32 cn_i_1 ?_
  refine kn_put (pc := 33) (q0 := 3) (C := RX3) (T := TX3) (N := 4) (t := 3) (j := 3) tyX3 tyX3_ok nmX3 rfl nm_nd3 (by decide) rfl rfl (tyX3_ok 3 (by decide)) rfl rfl (Nat.le_of_ble_eq_true rfl) wd_170 dk_Se_init_33 ?_
  exact kn_ret (pc := 36) [(q3, .inl (kn_cI Y, (256, .inl (fun _ => 0)))), (q2, .inl (kn_cI Y, (256, .inl (fun _ => 0)))), (q1, .inl (kn_cI Y, (256, .inl (fun _ => 0)))), (h0, .inr (3, [.ref q1, .ref q2, .ref q3, .int 1]))] rfl dk_Se_init_36 rfl ⟨q1, q2, q3, rfl⟩ rfl rfl
/-- what NoneMayLeave$Mover() leaves, newest first -/
def pn_Mo_init (Y : kn_Y) (h0 : Nat) (w : va_W) : Prop := ∃ q1 : Nat, w = [(q1, .inl (kn_cI Y, (20, .inl (fun _ => 0)))), (h0, .inr (2, [.ref q1, .int 0, .int 0, .int 0, .int 0]))]
set_option maxRecDepth 100000 in
set_option maxHeartbeats 8000000 in
theorem kc_Mo_init {Y : kn_Y} : KC Y mi_Mo_init 1 2 [.null, .int 0, .int 0, .int 0, .int 0] (pn_Mo_init Y) 1 20 := by
  refine KC.of (by decide +kernel) rfl (fun F h0 rest hF0 hmc hms => ?_)
  refine kn_aload_n (pc := 0) 0 0 dk_Mo_init_0 rfl rfl ?_
  refine kn_obj (pc := 1) wd_244 kb_o1 kb_o2 (Nat.le_trans (Nat.le_of_ble_eq_true rfl) hF0) dk_Mo_init_1 ?_
  refine kn_aload_n (pc := 4) 0 0 dk_Mo_init_4 rfl rfl ?_
  refine kn_bipush (pc := 5) (20 : Int32) dk_Mo_init_5 cn_b_20 ?_
  refine kn_newI (pc := 7) 20 wd_160 (by decide +kernel) (by decide +kernel) (by decide +kernel) (by rw [hmc]; exact Nat.le_of_ble_eq_true rfl) (by rw [hms]; exact Nat.le_of_ble_eq_true rfl) dk_Mo_init_7 (fun q1 => ?_)
  refine kn_putF (pc := 9) (q0 := 1) (C := RX2) (T := TX2) (N := 5) (t := 2) (j := 0) tyX2 tyX2_ok nmX2 rfl nm_nd2 (by decide) rfl rfl rfl rfl (tyX2_ok 0 (by decide)) rfl rfl (Nat.le_of_ble_eq_true rfl) wd_245 dk_Mo_init_9 ?_
  refine kn_aload_n (pc := 12) 0 0 dk_Mo_init_12 rfl rfl ?_
  refine kn_iconst (pc := 13) (0 : Int32) dk_Mo_init_13 cn_i_0 ?_
  refine kn_put (pc := 14) (q0 := 1) (C := RX2) (T := TX2) (N := 5) (t := 2) (j := 1) tyX2 tyX2_ok nmX2 rfl nm_nd2 (by decide) rfl rfl (tyX2_ok 1 (by decide)) rfl rfl (Nat.le_of_ble_eq_true rfl) wd_246 dk_Mo_init_14 ?_
  refine kn_aload_n (pc := 17) 0 0 dk_Mo_init_17 rfl rfl ?_
  refine kn_iconst (pc := 18) (0 : Int32) dk_Mo_init_18 cn_i_0 ?_
  refine kn_put (pc := 19) (q0 := 1) (C := RX2) (T := TX2) (N := 5) (t := 2) (j := 2) tyX2 tyX2_ok nmX2 rfl nm_nd2 (by decide) rfl rfl (tyX2_ok 2 (by decide)) rfl rfl (Nat.le_of_ble_eq_true rfl) wd_248 dk_Mo_init_19 ?_
  refine kn_aload_n (pc := 22) 0 0 dk_Mo_init_22 rfl rfl ?_
  refine kn_iconst (pc := 23) (0 : Int32) dk_Mo_init_23 cn_i_0 ?_
  refine kn_put (pc := 24) (q0 := 1) (C := RX2) (T := TX2) (N := 5) (t := 2) (j := 3) tyX2 tyX2_ok nmX2 rfl nm_nd2 (by decide) rfl rfl (tyX2_ok 3 (by decide)) rfl rfl (Nat.le_of_ble_eq_true rfl) wd_249 dk_Mo_init_24 ?_
  refine kn_aload_n (pc := 27) 0 0 dk_Mo_init_27 rfl rfl ?_
  refine kn_iconst (pc := 28) (0 : Int32) dk_Mo_init_28 cn_i_0 ?_
  refine kn_put (pc := 29) (q0 := 1) (C := RX2) (T := TX2) (N := 5) (t := 2) (j := 4) tyX2 tyX2_ok nmX2 rfl nm_nd2 (by decide) rfl rfl (tyX2_ok 4 (by decide)) rfl rfl (Nat.le_of_ble_eq_true rfl) wd_250 dk_Mo_init_29 ?_
  refine kn_eq (ws' := (q1, .inl (kn_cI Y, (20, .inl (fun _ => 0)))) :: (h0, .inr (2, [.ref q1, .int 0, .int 0, .int 0, .int 0])) :: rest) (by rfl) ?_
  exact kn_ret (pc := 32) [(q1, .inl (kn_cI Y, (20, .inl (fun _ => 0)))), (h0, .inr (2, [.ref q1, .int 0, .int 0, .int 0, .int 0]))] rfl dk_Mo_init_32 rfl ⟨q1, rfl⟩ rfl rfl
/-- what NoneMayLeave$Council() leaves, newest first -/
def pn_Co_init (Y : kn_Y) (h0 : Nat) (w : va_W) : Prop := ∃ q1 q2 q3 q4 q5 q6 q7 q8 q9 q10 q11 q12 q13 q14 : Nat, w = [(q14, .inl (kn_cI Y, (8, .inl (fun _ => 0)))), (q13, .inl (kn_cI Y, (8, .inl (fun _ => 0)))), (q12, .inl (kn_cI Y, (8, .inl (fun _ => 0)))), (q11, .inl (kn_cI Y, (8, .inl (fun _ => 0)))), (q10, .inl (kn_cI Y, (8, .inl (fun _ => 0)))), (q9, .inl (kn_cI Y, (8, .inl (fun _ => 0)))), (q8, .inr (1, [.ref q9, .ref q10, .ref q11, .ref q12, .ref q13, .ref q14, .int 0, .int 4, .int 0, .int 100, .int 0, .int 1])), (q7, .inl (kn_cI Y, (8, .inl (fun _ => 0)))), (q6, .inl (kn_cI Y, (8, .inl (fun _ => 0)))), (q5, .inl (kn_cI Y, (8, .inl (fun _ => 0)))), (q4, .inl (kn_cI Y, (8, .inl (fun _ => 0)))), (q3, .inl (kn_cI Y, (8, .inl (fun _ => 0)))), (q2, .inl (kn_cI Y, (8, .inl (fun _ => 0)))), (q1, .inr (1, [.ref q2, .ref q3, .ref q4, .ref q5, .ref q6, .ref q7, .int 0, .int 4, .int 0, .int 100, .int 0, .int 1])), (h0, .inr (0, [.ref q1, .ref q8, .int 0, .int 0, .int 0]))]
set_option maxRecDepth 100000 in
set_option maxHeartbeats 8000000 in
theorem kc_Co_init {Y : kn_Y} : KC Y mi_Co_init 2 0 [.null, .null, .int 0, .int 0, .int 0] (pn_Co_init Y) 14 120 := by
  refine KC.of (by decide +kernel) rfl (fun F h0 rest hF0 hmc hms => ?_)
  refine kn_aload_n (pc := 0) 0 0 dk_Co_init_0 rfl rfl ?_
  refine kn_obj (pc := 1) wd_185 kb_o1 kb_o2 (Nat.le_trans (Nat.le_of_ble_eq_true rfl) hF0) dk_Co_init_1 ?_
  refine kn_aload_n (pc := 4) 0 0 dk_Co_init_4 rfl rfl ?_
  refine kn_new (pc := 5) (fs := [.null, .null, .null, .null, .null, .null, .int 0, .int 0, .int 0, .int 0, .int 0, .int 0]) tyX1 tyX1_ok (ci := 1) rfl nm_nd1 wd_186 wd_106 wd_81 (fun j hj => kb_1 j hj) (by rw [hmc]; exact Nat.le_of_ble_eq_true rfl) (by rw [hms]; exact Nat.le_of_ble_eq_true rfl) dk_Co_init_5 (fun q1 => ?_)
  refine kn_dup (pc := 8) dk_Co_init_8 rfl ?_
  refine kn_callN (pc := 9) "NoneMayLeave" kc_Is_init (Nat.le_trans (Nat.le_of_ble_eq_true rfl) hF0) kw_Is_init wd_187 wd_108 rfl rfl (by rw [hmc]; exact Nat.le_of_ble_eq_true rfl) (by rw [hms]; exact Nat.le_of_ble_eq_true rfl) (Nat.le_of_ble_eq_true rfl) dk_Co_init_9 (fun w hw => ?_)
  obtain ⟨q2, q3, q4, q5, q6, q7, rfl⟩ := hw
  refine kn_eq (ws' := (q7, .inl (kn_cI Y, (8, .inl (fun _ => 0)))) :: (q6, .inl (kn_cI Y, (8, .inl (fun _ => 0)))) :: (q5, .inl (kn_cI Y, (8, .inl (fun _ => 0)))) :: (q4, .inl (kn_cI Y, (8, .inl (fun _ => 0)))) :: (q3, .inl (kn_cI Y, (8, .inl (fun _ => 0)))) :: (q2, .inl (kn_cI Y, (8, .inl (fun _ => 0)))) :: (q1, .inr (1, [.ref q2, .ref q3, .ref q4, .ref q5, .ref q6, .ref q7, .int 0, .int 4, .int 0, .int 100, .int 0, .int 1])) :: (h0, .inr (0, [.null, .null, .int 0, .int 0, .int 0])) :: rest) (by rfl) ?_
  refine kn_putF (pc := 12) (q0 := 7) (C := RX0) (T := TX0) (N := 5) (t := 0) (j := 0) tyX0 tyX0_ok nmX0 rfl nm_nd0 (by decide) rfl rfl rfl rfl (tyX0_ok 0 (by decide)) rfl rfl (Nat.le_of_ble_eq_true rfl) wd_188 dk_Co_init_12 ?_
  refine kn_aload_n (pc := 15) 0 0 dk_Co_init_15 rfl rfl ?_
  refine kn_new (pc := 16) (fs := [.null, .null, .null, .null, .null, .null, .int 0, .int 0, .int 0, .int 0, .int 0, .int 0]) tyX1 tyX1_ok (ci := 1) rfl nm_nd1 wd_186 wd_106 wd_81 (fun j hj => kb_1 j hj) (by rw [hmc]; exact Nat.le_of_ble_eq_true rfl) (by rw [hms]; exact Nat.le_of_ble_eq_true rfl) dk_Co_init_16 (fun q8 => ?_)
  refine kn_dup (pc := 19) dk_Co_init_19 rfl ?_
  refine kn_callN (pc := 20) "NoneMayLeave" kc_Is_init (Nat.le_trans (Nat.le_of_ble_eq_true rfl) hF0) kw_Is_init wd_187 wd_108 rfl rfl (by rw [hmc]; exact Nat.le_of_ble_eq_true rfl) (by rw [hms]; exact Nat.le_of_ble_eq_true rfl) (Nat.le_of_ble_eq_true rfl) dk_Co_init_20 (fun w hw => ?_)
  obtain ⟨q9, q10, q11, q12, q13, q14, rfl⟩ := hw
  refine kn_eq (ws' := (q14, .inl (kn_cI Y, (8, .inl (fun _ => 0)))) :: (q13, .inl (kn_cI Y, (8, .inl (fun _ => 0)))) :: (q12, .inl (kn_cI Y, (8, .inl (fun _ => 0)))) :: (q11, .inl (kn_cI Y, (8, .inl (fun _ => 0)))) :: (q10, .inl (kn_cI Y, (8, .inl (fun _ => 0)))) :: (q9, .inl (kn_cI Y, (8, .inl (fun _ => 0)))) :: (q8, .inr (1, [.ref q9, .ref q10, .ref q11, .ref q12, .ref q13, .ref q14, .int 0, .int 4, .int 0, .int 100, .int 0, .int 1])) :: (q7, .inl (kn_cI Y, (8, .inl (fun _ => 0)))) :: (q6, .inl (kn_cI Y, (8, .inl (fun _ => 0)))) :: (q5, .inl (kn_cI Y, (8, .inl (fun _ => 0)))) :: (q4, .inl (kn_cI Y, (8, .inl (fun _ => 0)))) :: (q3, .inl (kn_cI Y, (8, .inl (fun _ => 0)))) :: (q2, .inl (kn_cI Y, (8, .inl (fun _ => 0)))) :: (q1, .inr (1, [.ref q2, .ref q3, .ref q4, .ref q5, .ref q6, .ref q7, .int 0, .int 4, .int 0, .int 100, .int 0, .int 1])) :: (h0, .inr (0, [.ref q1, .null, .int 0, .int 0, .int 0])) :: rest) (by rfl) ?_
  refine kn_putF (pc := 23) (q0 := 14) (C := RX0) (T := TX0) (N := 5) (t := 0) (j := 1) tyX0 tyX0_ok nmX0 rfl nm_nd0 (by decide) rfl rfl rfl rfl (tyX0_ok 1 (by decide)) rfl rfl (Nat.le_of_ble_eq_true rfl) wd_189 dk_Co_init_23 ?_
  refine kn_aload_n (pc := 26) 0 0 dk_Co_init_26 rfl rfl ?_
  refine kn_iconst (pc := 27) (0 : Int32) dk_Co_init_27 cn_i_0 ?_
  refine kn_put (pc := 28) (q0 := 14) (C := RX0) (T := TX0) (N := 5) (t := 0) (j := 2) tyX0 tyX0_ok nmX0 rfl nm_nd0 (by decide) rfl rfl (tyX0_ok 2 (by decide)) rfl rfl (Nat.le_of_ble_eq_true rfl) wd_190 dk_Co_init_28 ?_
  refine kn_aload_n (pc := 31) 0 0 dk_Co_init_31 rfl rfl ?_
  refine kn_iconst (pc := 32) (0 : Int32) dk_Co_init_32 cn_i_0 ?_
  refine kn_put (pc := 33) (q0 := 14) (C := RX0) (T := TX0) (N := 5) (t := 0) (j := 3) tyX0 tyX0_ok nmX0 rfl nm_nd0 (by decide) rfl rfl (tyX0_ok 3 (by decide)) rfl rfl (Nat.le_of_ble_eq_true rfl) wd_192 dk_Co_init_33 ?_
  refine kn_aload_n (pc := 36) 0 0 dk_Co_init_36 rfl rfl ?_
  refine kn_iconst (pc := 37) (0 : Int32) dk_Co_init_37 cn_i_0 ?_
  refine kn_put (pc := 38) (q0 := 14) (C := RX0) (T := TX0) (N := 5) (t := 0) (j := 4) tyX0 tyX0_ok nmX0 rfl nm_nd0 (by decide) rfl rfl (tyX0_ok 4 (by decide)) rfl rfl (Nat.le_of_ble_eq_true rfl) wd_194 dk_Co_init_38 ?_
  exact kn_ret (pc := 41) [(q14, .inl (kn_cI Y, (8, .inl (fun _ => 0)))), (q13, .inl (kn_cI Y, (8, .inl (fun _ => 0)))), (q12, .inl (kn_cI Y, (8, .inl (fun _ => 0)))), (q11, .inl (kn_cI Y, (8, .inl (fun _ => 0)))), (q10, .inl (kn_cI Y, (8, .inl (fun _ => 0)))), (q9, .inl (kn_cI Y, (8, .inl (fun _ => 0)))), (q8, .inr (1, [.ref q9, .ref q10, .ref q11, .ref q12, .ref q13, .ref q14, .int 0, .int 4, .int 0, .int 100, .int 0, .int 1])), (q7, .inl (kn_cI Y, (8, .inl (fun _ => 0)))), (q6, .inl (kn_cI Y, (8, .inl (fun _ => 0)))), (q5, .inl (kn_cI Y, (8, .inl (fun _ => 0)))), (q4, .inl (kn_cI Y, (8, .inl (fun _ => 0)))), (q3, .inl (kn_cI Y, (8, .inl (fun _ => 0)))), (q2, .inl (kn_cI Y, (8, .inl (fun _ => 0)))), (q1, .inr (1, [.ref q2, .ref q3, .ref q4, .ref q5, .ref q6, .ref q7, .int 0, .int 4, .int 0, .int 100, .int 0, .int 1])), (h0, .inr (0, [.ref q1, .ref q8, .int 0, .int 0, .int 0]))] rfl dk_Co_init_41 rfl ⟨q1, q2, q3, q4, q5, q6, q7, q8, q9, q10, q11, q12, q13, q14, rfl⟩ rfl rfl
/-- what NoneMayLeave$TextReader() leaves, newest first -/
def pn_Tr_init (Y : kn_Y) (h0 : Nat) (w : va_W) : Prop := ∃ q1 q2 q3 q4 q5 q6 q7 q8 : Nat, w = [(q8, .inl (kn_cI Y, (160, .inl (fun _ => 0)))), (q7, .inl (kn_cI Y, (8, .inl (fun _ => 0)))), (q6, .inl (kn_cI Y, (8, .inl (fun _ => 0)))), (q5, .inl (kn_cI Y, (8, .inl (fun _ => 0)))), (q4, .inl (kn_cI Y, (8, .inl (fun _ => 0)))), (q3, .inl (kn_cI Y, (8, .inl (fun _ => 0)))), (q2, .inl (kn_cI Y, (8, .inl (fun _ => 0)))), (q1, .inr (1, [.ref q2, .ref q3, .ref q4, .ref q5, .ref q6, .ref q7, .int 0, .int 4, .int 0, .int 100, .int 0, .int 1])), (h0, .inr (5, [.ref q1, .ref q8, .int 0, .int 0, .int 0, .int 0, .int (-1 : Int32)]))]
set_option maxRecDepth 100000 in
set_option maxHeartbeats 8000000 in
theorem kc_Tr_init {Y : kn_Y} : KC Y mi_Tr_init 2 5 [.null, .null, .int 0, .int 0, .int 0, .int 0, .int 0] (pn_Tr_init Y) 8 220 := by
  refine KC.of (by decide +kernel) rfl (fun F h0 rest hF0 hmc hms => ?_)
  refine kn_aload_n (pc := 0) 0 0 dk_Tr_init_0 rfl rfl ?_
  refine kn_obj (pc := 1) wd_212 kb_o1 kb_o2 (Nat.le_trans (Nat.le_of_ble_eq_true rfl) hF0) dk_Tr_init_1 ?_
  refine kn_aload_n (pc := 4) 0 0 dk_Tr_init_4 rfl rfl ?_
  refine kn_new (pc := 5) (fs := [.null, .null, .null, .null, .null, .null, .int 0, .int 0, .int 0, .int 0, .int 0, .int 0]) tyX1 tyX1_ok (ci := 1) rfl nm_nd1 wd_213 wd_106 wd_81 (fun j hj => kb_1 j hj) (by rw [hmc]; exact Nat.le_of_ble_eq_true rfl) (by rw [hms]; exact Nat.le_of_ble_eq_true rfl) dk_Tr_init_5 (fun q1 => ?_)
  refine kn_dup (pc := 8) dk_Tr_init_8 rfl ?_
  refine kn_callN (pc := 9) "NoneMayLeave" kc_Is_init (Nat.le_trans (Nat.le_of_ble_eq_true rfl) hF0) kw_Is_init wd_214 wd_108 rfl rfl (by rw [hmc]; exact Nat.le_of_ble_eq_true rfl) (by rw [hms]; exact Nat.le_of_ble_eq_true rfl) (Nat.le_of_ble_eq_true rfl) dk_Tr_init_9 (fun w hw => ?_)
  obtain ⟨q2, q3, q4, q5, q6, q7, rfl⟩ := hw
  refine kn_eq (ws' := (q7, .inl (kn_cI Y, (8, .inl (fun _ => 0)))) :: (q6, .inl (kn_cI Y, (8, .inl (fun _ => 0)))) :: (q5, .inl (kn_cI Y, (8, .inl (fun _ => 0)))) :: (q4, .inl (kn_cI Y, (8, .inl (fun _ => 0)))) :: (q3, .inl (kn_cI Y, (8, .inl (fun _ => 0)))) :: (q2, .inl (kn_cI Y, (8, .inl (fun _ => 0)))) :: (q1, .inr (1, [.ref q2, .ref q3, .ref q4, .ref q5, .ref q6, .ref q7, .int 0, .int 4, .int 0, .int 100, .int 0, .int 1])) :: (h0, .inr (5, [.null, .null, .int 0, .int 0, .int 0, .int 0, .int 0])) :: rest) (by rfl) ?_
  refine kn_putF (pc := 12) (q0 := 7) (C := RX5) (T := TX5) (N := 7) (t := 5) (j := 0) tyX5 tyX5_ok nmX5 rfl nm_nd5 (by decide) rfl rfl rfl rfl (tyX5_ok 0 (by decide)) rfl rfl (Nat.le_of_ble_eq_true rfl) wd_215 dk_Tr_init_12 ?_
  refine kn_aload_n (pc := 15) 0 0 dk_Tr_init_15 rfl rfl ?_
  refine kn_sipush (pc := 16) (160 : Int32) dk_Tr_init_16 cn_s_160 ?_
  refine kn_newI (pc := 19) 160 wd_160 (by decide +kernel) (by decide +kernel) (by decide +kernel) (by rw [hmc]; exact Nat.le_of_ble_eq_true rfl) (by rw [hms]; exact Nat.le_of_ble_eq_true rfl) dk_Tr_init_19 (fun q8 => ?_)
  refine kn_putF (pc := 21) (q0 := 8) (C := RX5) (T := TX5) (N := 7) (t := 5) (j := 1) tyX5 tyX5_ok nmX5 rfl nm_nd5 (by decide) rfl rfl rfl rfl (tyX5_ok 1 (by decide)) rfl rfl (Nat.le_of_ble_eq_true rfl) wd_217 dk_Tr_init_21 ?_
  refine kn_aload_n (pc := 24) 0 0 dk_Tr_init_24 rfl rfl ?_
  refine kn_iconst (pc := 25) (0 : Int32) dk_Tr_init_25 cn_i_0 ?_
  refine kn_put (pc := 26) (q0 := 8) (C := RX5) (T := TX5) (N := 7) (t := 5) (j := 2) tyX5 tyX5_ok nmX5 rfl nm_nd5 (by decide) rfl rfl (tyX5_ok 2 (by decide)) rfl rfl (Nat.le_of_ble_eq_true rfl) wd_218 dk_Tr_init_26 ?_
  refine kn_aload_n (pc := 29) 0 0 dk_Tr_init_29 rfl rfl ?_
  refine kn_iconst (pc := 30) (0 : Int32) dk_Tr_init_30 cn_i_0 ?_
  refine kn_put (pc := 31) (q0 := 8) (C := RX5) (T := TX5) (N := 7) (t := 5) (j := 3) tyX5 tyX5_ok nmX5 rfl nm_nd5 (by decide) rfl rfl (tyX5_ok 3 (by decide)) rfl rfl (Nat.le_of_ble_eq_true rfl) wd_219 dk_Tr_init_31 ?_
  refine kn_aload_n (pc := 34) 0 0 dk_Tr_init_34 rfl rfl ?_
  refine kn_iconst (pc := 35) (0 : Int32) dk_Tr_init_35 cn_i_0 ?_
  refine kn_put (pc := 36) (q0 := 8) (C := RX5) (T := TX5) (N := 7) (t := 5) (j := 4) tyX5 tyX5_ok nmX5 rfl nm_nd5 (by decide) rfl rfl (tyX5_ok 4 (by decide)) rfl rfl (Nat.le_of_ble_eq_true rfl) wd_220 dk_Tr_init_36 ?_
  refine kn_eq (ws' := (q8, .inl (kn_cI Y, (160, .inl (fun _ => 0)))) :: (q7, .inl (kn_cI Y, (8, .inl (fun _ => 0)))) :: (q6, .inl (kn_cI Y, (8, .inl (fun _ => 0)))) :: (q5, .inl (kn_cI Y, (8, .inl (fun _ => 0)))) :: (q4, .inl (kn_cI Y, (8, .inl (fun _ => 0)))) :: (q3, .inl (kn_cI Y, (8, .inl (fun _ => 0)))) :: (q2, .inl (kn_cI Y, (8, .inl (fun _ => 0)))) :: (q1, .inr (1, [.ref q2, .ref q3, .ref q4, .ref q5, .ref q6, .ref q7, .int 0, .int 4, .int 0, .int 100, .int 0, .int 1])) :: (h0, .inr (5, [.ref q1, .ref q8, .int 0, .int 0, .int 0, .int 0, .int 0])) :: rest) (by rfl) ?_
  refine kn_aload_n (pc := 39) 0 0 dk_Tr_init_39 rfl rfl ?_
  refine kn_iconst (pc := 40) (0 : Int32) dk_Tr_init_40 cn_i_0 ?_
  refine kn_put (pc := 41) (q0 := 8) (C := RX5) (T := TX5) (N := 7) (t := 5) (j := 5) tyX5 tyX5_ok nmX5 rfl nm_nd5 (by decide) rfl rfl (tyX5_ok 5 (by decide)) rfl rfl (Nat.le_of_ble_eq_true rfl) wd_221 dk_Tr_init_41 ?_
  refine kn_aload_n (pc := 44) 0 0 dk_Tr_init_44 rfl rfl ?_
  refine kn_iconst (pc := 45) (-1 : Int32) dk_Tr_init_45 cn_i_m1 ?_
  refine kn_put (pc := 46) (q0 := 8) (C := RX5) (T := TX5) (N := 7) (t := 5) (j := 6) tyX5 tyX5_ok nmX5 rfl nm_nd5 (by decide) rfl rfl (tyX5_ok 6 (by decide)) rfl rfl (Nat.le_of_ble_eq_true rfl) wd_223 dk_Tr_init_46 ?_
  exact kn_ret (pc := 49) [(q8, .inl (kn_cI Y, (160, .inl (fun _ => 0)))), (q7, .inl (kn_cI Y, (8, .inl (fun _ => 0)))), (q6, .inl (kn_cI Y, (8, .inl (fun _ => 0)))), (q5, .inl (kn_cI Y, (8, .inl (fun _ => 0)))), (q4, .inl (kn_cI Y, (8, .inl (fun _ => 0)))), (q3, .inl (kn_cI Y, (8, .inl (fun _ => 0)))), (q2, .inl (kn_cI Y, (8, .inl (fun _ => 0)))), (q1, .inr (1, [.ref q2, .ref q3, .ref q4, .ref q5, .ref q6, .ref q7, .int 0, .int 4, .int 0, .int 100, .int 0, .int 1])), (h0, .inr (5, [.ref q1, .ref q8, .int 0, .int 0, .int 0, .int 0, .int (-1 : Int32)]))] rfl dk_Tr_init_49 rfl ⟨q1, q2, q3, q4, q5, q6, q7, q8, rfl⟩ rfl rfl
